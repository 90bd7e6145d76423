import java.util.NoSuchElementException;

/**
 * Rivers by subscription: a plain whose river is let out by the month to whichever town pays.
 *
 * The numbered promises that this class keeps stand in the project's document. Every row that a
 * call needs is made with the object and used again, so that calls leave nothing behind them.
 */
public final class RentRiver {
    public static final int NONE = -1;

    private static final int MOST_TOWNS = 8;
    private static final int MOST_BIDS = 40;
    private static final int MONTHS = 12;
    /** The number by which calls tell the SEA; its place in the row is behind the last town. */
    private static final int SEA = 8;
    private static final int MOST_NUMBER = 999;

    private static final int PLAIN_BYTES = 900;
    private static final int CONTRACT_BYTES = 400;
    private static final int SENTENCE_BYTES = 200;

    /** What a row 'town' and the rows about one town tell, in the order of told(). */
    private static final int SEEP = 0;
    private static final int STORE = 1;
    private static final int USE = 2;
    private static final int FIRST_PURSE = 3;
    private static final int NEED = 4;
    private static final int MILL = 5;
    private static final int BRIDGE = 6;
    private static final int FIELD = 7;
    private static final int RATE = 8;
    private static final int TOLD = 9;

    /** What a YEAR keeps of each town, in the order of town(); the last one is not told. */
    private static final int POND = 0;
    private static final int PURSE = 1;
    private static final int DRY_ROW = 2;
    private static final int SHORE = 3;
    private static final int LETS = 4;
    private static final int PAID = 5;
    private static final int CAME = 6;
    private static final int DRY_ALL = 7;
    private static final int GREEN_BEST = 8;
    private static final int HARVEST = 9;
    private static final int GREEN_ROW = 10;
    private static final int OF_TOWN = 11;

    private static final int NO_TOKEN = 1;
    private static final int BAD_NUMBER = 2;
    private static final int BAD_NAME = 3;
    private static final int TOO_MANY = 4;

    private static final int PLACES = 2;
    private static final int MOST_ROUNDS = 1000;
    private static final int MOST_STEP = 99;
    private static final int MOST_YEARS = 100;
    private static final int MORE_WATER = 100;
    /** Twelve months of two digits, two names of eight letters, three digits and four signs. */
    private static final int TEXT_BYTES = 300;

    private final Tape tape = new Tape();
    private final State now = new State();
    /** Texts are read into its parts, so that a FAULT leaves the parts of now as they are. */
    private final State spare = new State();
    private final State[] images = new State[PLACES];
    private final boolean[] kept = new boolean[PLACES];
    private final Undo undone = new Undo();
    private final Cheapest planner = new Cheapest();
    private final Rounds auction = new Rounds();
    private final Leaks search = new Leaks();
    private final Year trial = new Year();
    private final byte[] text = new byte[TEXT_BYTES];
    private int textSize = 0;
    private int latestFault = 0;
    private int plains = 0;

    public RentRiver() {
        for (int k = 0; k < PLACES; k++) {
            images[k] = new State();
        }
    }

    public int feed(int a, int b, int c, int d, int e) {
        if (!tape.hasRoom()) {
            return NONE;
        }
        tape.put(a);
        tape.put(b);
        tape.put(c);
        tape.put(d);
        tape.put(e);
        return tape.size;
    }

    public boolean end(int n) {
        if (n < 0 || n > tape.size) {
            return false;
        }
        tape.size = n;
        return true;
    }

    public int plain() {
        Plain next = spare.plain;
        next.clear();
        tape.open(PLAIN_BYTES);
        int rows = next.readRows(tape);
        if (tape.fault == 0) {
            plains++;
            next.serial = plains;
            spare.plain = now.plain;
            now.plain = next;
            now.deals.clear();
            now.sentence.clear();
            now.year.running = false;
            undone.size = 0;
        }
        return closeTape(rows);
    }

    /** The tape is empty behind each call that reads it, whatever came of it. */
    private int closeTape(int answer) {
        tape.size = 0;
        latestFault = tape.fault;
        return latestFault == 0 ? answer : -1 - tape.faultAt;
    }

    public int fault() {
        return latestFault;
    }

    public int told(int town, int what) throws NoSuchElementException {
        if (!isTown(town) || what < 0 || what >= TOLD) {
            throw new NoSuchElementException("no such town, or nothing such is told of it");
        }
        return now.plain.told[town][what];
    }

    private boolean isTown(int town) {
        return town >= 0 && town < now.plain.towns;
    }

    private static boolean isMonth(int month) {
        return month >= 0 && month < MONTHS;
    }

    public int bid(int town, int month) {
        if (!isTown(town) || !isMonth(month)) {
            return NONE;
        }
        return now.plain.bids[town][month];
    }

    public boolean offer(int town, int month, int n) {
        if (!isTown(town) || !isMonth(month) || n < 0 || n > MOST_NUMBER) {
            return false;
        }
        int before = now.plain.bids[town][month];
        if (before == 0 && n > 0 && now.plain.bidCount >= MOST_BIDS) {
            return false;
        }
        undone.keep(town, month, before);
        now.plain.setBid(town, month, n);
        return true;
    }

    public int undo() {
        return undone.back(now.plain);
    }

    public int water(int month) {
        return isMonth(month) ? now.plain.water[month] : NONE;
    }

    public int contracts() {
        Contracts next = spare.deals;
        next.clear();
        tape.open(CONTRACT_BYTES);
        next.readRows(tape, now.plain);
        if (tape.fault == 0) {
            spare.deals = now.deals;
            now.deals = next;
        }
        return closeTape(next.rows);
    }

    public int contract(int month, int what) {
        if (!isMonth(month) || !now.deals.tells(month)) {
            return NONE;
        }
        switch (what) {
            case 0: return now.deals.first[month];
            case 1: return now.deals.second[month];
            case 2: return now.deals.cost[month];
            default: return NONE;
        }
    }

    public boolean begin() {
        if (now.plain.towns == 0) {
            return false;
        }
        now.year.start(now.plain);
        return true;
    }

    public int on(int n) {
        if (n < 0 || n > MONTHS || !now.year.running) {
            return NONE;
        }
        int before = now.year.months;
        now.year.goOn(now.plain, now.deals, n);
        return now.year.months - before;
    }

    public int year(int what) {
        return now.year.running ? now.year.number(what) : NONE - 1000;
    }

    public int town(int town, int what) {
        if (!now.year.running || !isTown(town) || what < 0 || what > HARVEST) {
            return NONE;
        }
        return now.year.of[town][what];
    }

    public int let(int month, int what) {
        if (!now.year.running || !isMonth(month) || month >= now.year.months) {
            return NONE;
        }
        switch (what) {
            case 0: return now.year.letTo[month];
            case 1: return now.year.letAlso[month];
            case 2: return now.year.letFor[month];
            default: return NONE;
        }
    }

    public int droughts() {
        if (!now.year.running) {
            return NONE;
        }
        int bits = 0;
        for (int month = 0; month < now.year.months && month < MONTHS; month++) {
            if (now.year.letTo[month] == SEA) {
                bits |= 1 << month;
            }
        }
        return bits;
    }

    public int cheapest() {
        if (now.plain.towns == 0 || now.plain.towns > Cheapest.TOWNS) {
            return -2;
        }
        return planner.solve(now.plain);
    }

    public int plan(int month) {
        return isMonth(month) && planner.done ? planner.plan[month] : NONE;
    }

    public boolean take() {
        if (!planner.done || planner.planned != now.plain.serial) {
            return false;
        }
        now.deals.clear();
        for (int month = 0; month < MONTHS; month++) {
            int to = planner.plan[month];
            now.deals.tell(month, to, NONE, isTown(to) ? now.plain.bids[to][month] : 0);
        }
        return true;
    }

    public int rounds(int step) {
        if (step < 1 || step > MOST_STEP || now.plain.towns == 0) {
            return NONE;
        }
        return auction.run(now.plain, step);
    }

    public int has(int town) {
        return town >= 0 && town < MOST_TOWNS && auction.done ? auction.monthOf[town] : NONE;
    }

    public int price(int month) {
        return isMonth(month) && auction.done ? auction.prices[month] : NONE;
    }

    public int leaks() {
        boolean told = search.readLevels(tape, now.plain.towns);
        tape.size = 0;
        return told ? search.run(now.plain, now.deals) : NONE;
    }

    public int leak(int k, int what) {
        if (k < 0 || k >= search.kept || k >= Leaks.MOST || what < 0 || what > 2) {
            return NONE;
        }
        return search.found[k][what];
    }

    public int wettest(int town) {
        if (!isTown(town)) {
            return NONE;
        }
        int wettest = 0;
        for (int month = 1; month < MONTHS; month++) {
            // The SEEP is the same for all months, so that the WATER alone tells which has most.
            if (now.plain.water[month] > now.plain.water[wettest]) {
                wettest = month;
            }
        }
        return wettest;
    }

    public int enough(int town) {
        if (!isTown(town)) {
            return NONE;
        }
        int need = now.plain.told[town][NEED];
        int taken = 0;
        for (int months = 0; months <= MONTHS; months++) {
            if (need <= 0) {
                return months;
            }
            int most = mostGain(town, taken);
            if (most == NONE) {
                return NONE;
            }
            taken |= 1 << most;
            need -= now.plain.gain(town, most);
        }
        return NONE;
    }

    /** The month outside the bits of taken that brings a town most; NONE if all are taken. */
    private int mostGain(int town, int taken) {
        int most = NONE;
        for (int month = 0; month < MONTHS; month++) {
            boolean free = (taken >> month & 1) == 0;
            int gain = now.plain.gain(town, month);
            if (free && (most == NONE || gain > now.plain.gain(town, most))) {
                most = month;
            }
        }
        return most;
    }

    public int shoresOf() {
        if (now.plain.towns == 0) {
            return NONE;
        }
        tryYear(now.plain);
        int bits = 0;
        for (int town = 0; town < now.plain.towns; town++) {
            bits |= trial.of[town][SHORE] << town;
        }
        return bits;
    }

    /** A whole YEAR of trial by the bids of a plain and by the CONTRACTS as they are. */
    private void tryYear(Plain plain) {
        trial.start(plain);
        trial.goOn(plain, now.deals, MONTHS);
    }

    public int thirsty() {
        if (now.plain.towns == 0) {
            return NONE;
        }
        tryYear(now.plain);
        int bits = 0;
        for (int town = 0; town < now.plain.towns; town++) {
            if (trial.lacks(now.plain, town)) {
                bits |= 1 << town;
            }
        }
        return bits;
    }

    public int bidsOf(int town) {
        if (!isTown(town)) {
            return NONE;
        }
        int all = 0;
        for (int month = 0; month < MONTHS; month++) {
            all += now.plain.bids[town][month];
        }
        return all;
    }

    public int greatest(int month) {
        if (!isMonth(month)) {
            return NONE;
        }
        int who = NONE;
        int most = 0;
        for (int town = 0; town < now.plain.towns; town++) {
            if (now.plain.bids[town][month] > most) {
                most = now.plain.bids[town][month];
                who = town;
            }
        }
        return who;
    }

    public int write() {
        if (!now.year.running) {
            return NONE;
        }
        textSize = 0;
        for (int month = 0; month < now.year.months && month < MONTHS; month++) {
            putNumber(month);
            putByte(' ');
            putTenant(now.year.letTo[month]);
            if (now.year.letAlso[month] != NONE) {
                putTenant(now.year.letAlso[month]);
            }
            putNumber(now.year.letFor[month]);
            putByte(';');
        }
        return textSize;
    }

    private void putByte(int sign) {
        if (textSize < TEXT_BYTES) {
            text[textSize] = (byte) sign;
            textSize++;
        }
    }

    /** A number of at most three digits. */
    private void putNumber(int number) {
        if (number > 99) {
            putByte('0' + number / 100 % 10);
        }
        if (number > 9) {
            putByte('0' + number / 10 % 10);
        }
        putByte('0' + number % 10);
    }

    private void putTenant(int town) {
        long name = isTown(town) ? now.plain.names[town] : Word.SEA.code;
        for (int shift = Word.HIGHEST; shift >= 0; shift -= Word.BITS) {
            int letter = (int) (name >> shift & Word.MASK);
            if (letter != 0) {
                putByte(Word.AHEAD_OF_A + letter);
            }
        }
        putByte(' ');
    }

    public int byteAt(int i) {
        return i >= 0 && i < textSize && i < TEXT_BYTES ? text[i] : NONE;
    }

    public int worth(int town) {
        if (!isTown(town)) {
            return NONE - 10000;
        }
        tryYear(now.plain);
        int with = trial.treasury;
        spare.plain.copy(now.plain);
        for (int month = 0; month < MONTHS; month++) {
            spare.plain.setBid(town, month, 0);
        }
        tryYear(spare.plain);
        return with - trial.treasury;
    }

    public int drawn(int seed) {
        if (now.plain.towns == 0) {
            return NONE - 10000;
        }
        trial.start(now.plain);
        trial.draw(now.plain, now.deals, seed);
        return trial.treasury;
    }

    public int shores(int town, int n, int seed) {
        if (!isTown(town) || n < 1 || n > MOST_YEARS) {
            return NONE;
        }
        int years = 0;
        for (int i = 0; i < n; i++) {
            trial.start(now.plain);
            trial.draw(now.plain, now.deals, seed + i);
            years += trial.of[town][SHORE];
        }
        return years;
    }

    public int must(int town, int month) {
        if (!isTown(town) || !isMonth(month)) {
            return NONE;
        }
        trial.start(now.plain);
        trial.goOn(now.plain, now.deals, month);
        if (now.deals.tells(month)) {
            boolean alone = now.deals.first[month] == town && now.deals.second[month] == NONE;
            return alone && trial.canPay(town, now.deals.cost[month]) ? 1 : NONE;
        }
        int least = trial.leastBid(now.plain, town, month);
        return least <= MOST_NUMBER && trial.canPay(town, least) ? least : NONE;
    }

    public int sentence() {
        Sentence next = spare.sentence;
        next.clear();
        tape.open(SENTENCE_BYTES);
        next.readText(tape);
        if (tape.fault == 0) {
            spare.sentence = now.sentence;
            now.sentence = next;
        }
        return closeTape(next.ones);
    }

    public int said(int k) {
        if (now.sentence.ones == 0 || !now.year.running) {
            return NONE;
        }
        int many = 0;
        for (int town = 0; town < now.plain.towns; town++) {
            if (now.sentence.holds(now.plain, now.year, town)) {
                if (many == k) {
                    return town;
                }
                many++;
            }
        }
        return k == NONE ? many : NONE;
    }

    public boolean image(int k) {
        if (k < 0 || k >= PLACES) {
            return false;
        }
        images[k].copy(now);
        kept[k] = true;
        return true;
    }

    public boolean restore(int k) {
        if (k < 0 || k >= PLACES || !kept[k]) {
            return false;
        }
        now.copy(images[k]);
        undone.size = 0;
        return true;
    }

    public int count(int what) {
        switch (what) {
            case 0: return now.plain.towns;
            case 1: return now.plain.bidCount;
            case 2: return now.plain.move;
            case 3: return now.plain.fish;
            case 4: return now.plain.patience;
            case 5: return now.deals.rows;
            case 6: return tape.size;
            default: return NONE;
        }
    }

    /**
     * The words that texts know; none of them is a NAME. A word is told by a number of five bits a
     * letter, so that it is compared at once and a NAME takes one place in a row.
     */
    enum Word {
        TOWN("town", NONE), WATER("water", NONE), BID("bid", NONE),
        NEEDS("need", NEED), MILLS("mill", MILL), BRIDGES("bridge", BRIDGE), FIELDS("field", FIELD),
        MOVE("move", NONE), FISH("fish", NONE), PATIENCE("patience", NONE),
        LET("let", NONE), SEA("sea", NONE),
        OR("or", NONE), AND("and", NONE), NOT("not", NONE),
        SHORES("shore", NONE), THIRSTY("thirsty", NONE),
        PONDS("pond", POND), PURSES("purse", PURSE), PAYS("paid", PAID), DRY("dry", DRY_ALL),
        LETTINGS("lets", LETS), GREEN("green", GREEN_BEST), PLACE("place", OF_TOWN);

        static final int LETTERS = 8;
        static final int BITS = 5;
        static final int MASK = 31;
        static final int HIGHEST = BITS * (LETTERS - 1);
        static final int AHEAD_OF_A = 96;
        private static final Word[] ALL = values();

        final long code;
        /** Which number of a town the word tells: of told() in a PLAIN, of town() in a SENTENCE. */
        final int what;

        Word(String text, int what) {
            long letters = 0;
            for (int i = 0; i < text.length(); i++) {
                letters = letters << BITS | text.charAt(i) - AHEAD_OF_A;
            }
            this.code = letters;
            this.what = what;
        }

        /** Null, if the word of this code is none of these. */
        static Word find(long code) {
            for (int i = 0; i < ALL.length; i++) {
                if (ALL[i].code == code) {
                    return ALL[i];
                }
            }
            return null;
        }

        boolean isMeasure() {
            return this == PONDS || this == PURSES || this == PAYS || this == DRY
                || this == LETTINGS || this == GREEN || this == PLACE;
        }

        boolean isAboutTown() {
            return this == NEEDS || this == MILLS || this == BRIDGES || this == FIELDS;
        }
    }

    /** The tape, the TOKEN of it that was read last, and the FAULT that its text has. */
    static final class Tape {
        static final int BYTES = 940;
        static final int FED = 20;
        static final int END = 0;
        static final int WORD = 1;
        static final int NUMBER = 2;
        static final int SIGN = 3;
        static final int NOTHING = 4;
        static final int DIGITS = 3;

        final byte[] bytes = new byte[BYTES];
        int size = 0;
        int fault = 0;
        int faultAt = 0;
        int kind = END;
        /** Where the TOKEN begins. */
        int start = 0;
        int number = 0;
        int sign = 0;
        long code = 0;
        /** The word of the TOKEN, null if it is none that texts know. */
        Word word = null;
        private int most = 0;
        private int here = 0;

        boolean hasRoom() {
            return size + FED <= BYTES;
        }

        void put(int four) {
            for (int shift = 24; shift >= 0 && size < BYTES; shift -= 8) {
                bytes[size] = (byte) (four >>> shift);
                size++;
            }
        }

        int valueAt(int i) {
            return i >= 0 && i < size && i < BYTES ? bytes[i] & 255 : NONE;
        }

        /** A text of so many bytes at most is read from here on. */
        void open(int mostBytes) {
            most = mostBytes;
            here = 0;
            fault = 0;
            faultAt = 0;
        }

        /** Reads the next TOKEN; one that begins ahead of the most bytes is read whole. */
        void advance() {
            int stop = Math.min(size, most);
            while (here < stop && (valueAt(here) == 32 || valueAt(here) == 10)) {
                here++;
            }
            word = null;
            code = 0;
            number = 0;
            sign = 0;
            if (here >= stop) {
                kind = END;
                start = stop;
                return;
            }
            start = here;
            if (isLetter(valueAt(here)) || isDigit(valueAt(here))) {
                readRun();
            } else {
                kind = SIGN;
                sign = valueAt(here);
                here++;
            }
        }

        private static boolean isLetter(int value) {
            return value >= 'a' && value <= 'z';
        }

        private static boolean isDigit(int value) {
            return value >= '0' && value <= '9';
        }

        private void readRun() {
            int letters = 0;
            int digits = 0;
            while (here < size && (isLetter(valueAt(here)) || isDigit(valueAt(here)))) {
                int value = valueAt(here);
                if (isLetter(value)) {
                    letters++;
                    code = code << Word.BITS | value - Word.AHEAD_OF_A;
                } else {
                    digits++;
                    number = number * 10 + value - '0';
                }
                here++;
            }
            kind = NOTHING;
            if (digits == 0 && letters <= Word.LETTERS) {
                kind = WORD;
                word = Word.find(code);
            } else if (letters == 0 && digits <= DIGITS) {
                kind = NUMBER;
            }
        }

        /** The FAULT is at the TOKEN read last; false, for the caller to hand on. */
        boolean refuse(int faultKind) {
            fault = faultKind;
            faultAt = start;
            return false;
        }

        /** Behind the last TOKEN that a text can have: whether the text ends there. */
        boolean finish() {
            return kind == END && size <= most || refuse(NO_TOKEN);
        }

        /** The NUMBER that the TOKEN is; NONE, and a FAULT, if it is not as told. */
        int numberHere(int least, int greatest) {
            if (kind != NUMBER) {
                refuse(NO_TOKEN);
                return NONE;
            }
            if (number < least || number > greatest) {
                refuse(BAD_NUMBER);
                return NONE;
            }
            return number;
        }

        int nextNumber(int least, int greatest) {
            advance();
            return numberHere(least, greatest);
        }

        boolean isSign(int wanted) {
            return kind == SIGN && sign == wanted;
        }

        boolean nextSign(int wanted) {
            advance();
            return isSign(wanted) || refuse(NO_TOKEN);
        }

        /** Whether the TOKEN can be a NAME. */
        boolean nameHere() {
            return kind == WORD && word == null || refuse(NO_TOKEN);
        }
    }

    /** A PLAIN as told, and the bids as they are now. */
    static final class Plain {
        private static final int PATIENCE = 3;

        final long[] names = new long[MOST_TOWNS];
        final int[][] told = new int[MOST_TOWNS][TOLD];
        final int[][] bids = new int[MOST_TOWNS][MONTHS];
        final int[] water = new int[MONTHS];
        int towns = 0;
        int bidCount = 0;
        int move = 0;
        int fish = 0;
        int patience = PATIENCE;
        /** Which text read as a PLAIN this one is. */
        int serial = 0;
        /** What can be told once and has been: of each town and of WATER as bits, then the rest. */
        private final int[] toldOf = new int[MOST_TOWNS];
        private int toldWater = 0;
        private boolean toldMove = false;
        private boolean toldFish = false;
        private boolean toldPatience = false;

        void clear() {
            for (int town = 0; town < MOST_TOWNS; town++) {
                names[town] = 0;
                toldOf[town] = 0;
                for (int what = 0; what < TOLD; what++) {
                    told[town][what] = 0;
                }
                for (int month = 0; month < MONTHS; month++) {
                    bids[town][month] = 0;
                }
            }
            for (int month = 0; month < MONTHS; month++) {
                water[month] = 0;
            }
            towns = 0;
            bidCount = 0;
            move = 0;
            fish = 0;
            patience = PATIENCE;
            toldWater = 0;
            toldMove = false;
            toldFish = false;
            toldPatience = false;
        }

        /** What was told once matters while a text is read alone, and is not copied. */
        void copy(Plain from) {
            System.arraycopy(from.names, 0, names, 0, MOST_TOWNS);
            for (int town = 0; town < MOST_TOWNS; town++) {
                System.arraycopy(from.told[town], 0, told[town], 0, TOLD);
                System.arraycopy(from.bids[town], 0, bids[town], 0, MONTHS);
            }
            System.arraycopy(from.water, 0, water, 0, MONTHS);
            towns = from.towns;
            bidCount = from.bidCount;
            move = from.move;
            fish = from.fish;
            patience = from.patience;
            serial = from.serial;
        }

        void setBid(int town, int month, int n) {
            if (bids[town][month] > 0) {
                bidCount--;
            }
            if (n > 0) {
                bidCount++;
            }
            bids[town][month] = n;
        }

        /** What a month's WATER brings a town, SEEP taken off. */
        int gain(int town, int month) {
            return Math.max(0, water[month] - told[town][SEEP]);
        }

        /** How many places a town, or the SEA, is from the first town. */
        int placeOf(int town) {
            return town == SEA ? towns : town;
        }

        /** Reads rows to the end of a text, or to its first FAULT: how many. */
        int readRows(Tape tape) {
            int rows = 0;
            tape.advance();
            while (tape.kind != Tape.END && rows < Tape.BYTES) {
                if (!readRow(tape) || !tape.nextSign(';')) {
                    return rows;
                }
                rows++;
                tape.advance();
            }
            tape.finish();
            return rows;
        }

        /** Reads a row of which the first TOKEN has been read, as far as ahead of its sign. */
        private boolean readRow(Tape tape) {
            Word word = tape.word;
            if (word == null) {
                return tape.refuse(NO_TOKEN);
            }
            if (word == Word.TOWN) {
                return readTown(tape);
            }
            if (word == Word.WATER) {
                return readWater(tape);
            }
            if (word == Word.BID) {
                return readBid(tape);
            }
            if (word.isAboutTown()) {
                return readAboutTown(tape, word);
            }
            if (word == Word.MOVE) {
                return readMove(tape);
            }
            if (word == Word.FISH) {
                return readFish(tape);
            }
            if (word == Word.PATIENCE) {
                return readPatience(tape);
            }
            return tape.refuse(NO_TOKEN);
        }

        private boolean readTown(Tape tape) {
            if (towns >= MOST_TOWNS) {
                return tape.refuse(TOO_MANY);
            }
            tape.advance();
            if (!tape.nameHere()) {
                return false;
            }
            if (find(tape.code) != NONE) {
                return tape.refuse(BAD_NAME);
            }
            names[towns] = tape.code;
            for (int what = SEEP; what <= FIRST_PURSE; what++) {
                boolean large = what == STORE || what == FIRST_PURSE;
                int n = tape.nextNumber(0, large ? MOST_NUMBER : 99);
                if (n == NONE) {
                    return false;
                }
                told[towns][what] = n;
            }
            towns++;
            return true;
        }

        private int find(long name) {
            for (int town = 0; town < towns; town++) {
                if (names[town] == name) {
                    return town;
                }
            }
            return NONE;
        }

        /** The town whose NAME the TOKEN is; NONE, and a FAULT, if it is none. */
        int townHere(Tape tape) {
            if (!tape.nameHere()) {
                return NONE;
            }
            int town = find(tape.code);
            if (town == NONE) {
                tape.refuse(BAD_NAME);
            }
            return town;
        }

        int nextTown(Tape tape) {
            tape.advance();
            return townHere(tape);
        }

        private boolean readWater(Tape tape) {
            int month = tape.nextNumber(0, MONTHS - 1);
            if (month == NONE) {
                return false;
            }
            if ((toldWater >> month & 1) != 0) {
                return tape.refuse(BAD_NAME);
            }
            int n = tape.nextNumber(0, MOST_NUMBER);
            if (n == NONE) {
                return false;
            }
            toldWater |= 1 << month;
            water[month] = n;
            return true;
        }

        private boolean readBid(Tape tape) {
            if (bidCount >= MOST_BIDS) {
                return tape.refuse(TOO_MANY);
            }
            int town = nextTown(tape);
            if (town == NONE) {
                return false;
            }
            int month = tape.nextNumber(0, MONTHS - 1);
            if (month == NONE) {
                return false;
            }
            if (bids[town][month] != 0) {
                return tape.refuse(BAD_NAME);
            }
            int n = tape.nextNumber(1, MOST_NUMBER);
            if (n == NONE) {
                return false;
            }
            setBid(town, month, n);
            return true;
        }

        private boolean readAboutTown(Tape tape, Word word) {
            int town = nextTown(tape);
            if (town == NONE) {
                return false;
            }
            if ((toldOf[town] >> word.what & 1) != 0) {
                return tape.refuse(BAD_NAME);
            }
            int n = tape.nextNumber(0, word == Word.NEEDS ? MOST_NUMBER : 99);
            if (n == NONE) {
                return false;
            }
            if (word == Word.FIELDS) {
                int rate = tape.nextNumber(0, 99);
                if (rate == NONE) {
                    return false;
                }
                told[town][RATE] = rate;
            }
            toldOf[town] |= 1 << word.what;
            told[town][word.what] = n;
            return true;
        }

        private boolean readMove(Tape tape) {
            if (toldMove) {
                return tape.refuse(BAD_NAME);
            }
            toldMove = true;
            move = tape.nextNumber(0, 99);
            return move != NONE;
        }

        private boolean readFish(Tape tape) {
            if (toldFish) {
                return tape.refuse(BAD_NAME);
            }
            toldFish = true;
            fish = tape.nextNumber(0, MOST_NUMBER);
            return fish != NONE;
        }

        private boolean readPatience(Tape tape) {
            if (toldPatience) {
                return tape.refuse(BAD_NAME);
            }
            toldPatience = true;
            patience = tape.nextNumber(1, MONTHS);
            return patience != NONE;
        }
    }

    /** CONTRACTS: of each month one at most. */
    static final class Contracts {
        /** To whom a month goes, or the SEA; NONE where nothing is told. */
        final int[] first = new int[MONTHS];
        final int[] second = new int[MONTHS];
        final int[] cost = new int[MONTHS];
        int rows = 0;

        Contracts() {
            clear();
        }

        void clear() {
            for (int month = 0; month < MONTHS; month++) {
                first[month] = NONE;
                second[month] = NONE;
                cost[month] = 0;
            }
            rows = 0;
        }

        void copy(Contracts from) {
            System.arraycopy(from.first, 0, first, 0, MONTHS);
            System.arraycopy(from.second, 0, second, 0, MONTHS);
            System.arraycopy(from.cost, 0, cost, 0, MONTHS);
            rows = from.rows;
        }

        boolean tells(int month) {
            return first[month] != NONE;
        }

        void tell(int month, int town, int other, int sum) {
            first[month] = town;
            second[month] = other;
            cost[month] = sum;
            rows++;
        }

        void readRows(Tape tape, Plain plain) {
            tape.advance();
            for (int i = 0; i <= MONTHS && tape.kind != Tape.END; i++) {
                if (!readRow(tape, plain) || !tape.nextSign(';')) {
                    return;
                }
                tape.advance();
            }
            tape.finish();
        }

        private boolean readRow(Tape tape, Plain plain) {
            Word word = tape.word;
            if (word != Word.LET && word != Word.SEA) {
                return tape.refuse(NO_TOKEN);
            }
            int month = tape.nextNumber(0, MONTHS - 1);
            if (month == NONE) {
                return false;
            }
            if (tells(month)) {
                return tape.refuse(BAD_NAME);
            }
            if (word == Word.LET) {
                return readLet(tape, plain, month);
            }
            tell(month, SEA, NONE, 0);
            return true;
        }

        private boolean readLet(Tape tape, Plain plain, int month) {
            int town = plain.nextTown(tape);
            if (town == NONE) {
                return false;
            }
            int other = NONE;
            tape.advance();
            if (tape.kind == Tape.WORD) {
                other = plain.townHere(tape);
                if (other == NONE) {
                    return false;
                }
                if (other == town) {
                    return tape.refuse(BAD_NAME);
                }
                tape.advance();
            }
            int sum = tape.numberHere(0, MOST_NUMBER);
            if (sum == NONE) {
                return false;
            }
            tell(month, town, other, sum);
            return true;
        }
    }

    /** A SENTENCE, kept in the order in which it is worked out: what is joined, then by what. */
    static final class Sentence {
        private static final int ONES = 20;
        private static final int DEPTH = 8;
        /** Each ONE makes a step at most, and each but the first is joined to another by one. */
        private static final int STEPS = 2 * ONES;

        private final Word[] steps = new Word[STEPS];
        private final int[] signs = new int[STEPS];
        private final int[] numbers = new int[STEPS];
        private final boolean[] stack = new boolean[STEPS];
        private int size = 0;
        /** How many ONES; 0: there is no SENTENCE. */
        int ones = 0;

        void clear() {
            size = 0;
            ones = 0;
        }

        void copy(Sentence from) {
            for (int i = 0; i < STEPS; i++) {
                steps[i] = from.steps[i];
                signs[i] = from.signs[i];
                numbers[i] = from.numbers[i];
            }
            size = from.size;
            ones = from.ones;
        }

        private boolean add(Word step, int sign, int number) {
            if (size < STEPS) {
                steps[size] = step;
                signs[size] = sign;
                numbers[size] = number;
                size++;
            }
            return true;
        }

        void readText(Tape tape) {
            tape.advance();
            if (readCond(tape, 1)) {
                tape.finish();
            }
        }

        /** Reads ALL { 'or' ALL }, its ONES being the depth-th within one another. */
        private boolean readCond(Tape tape, int depth) {
            if (!readAll(tape, depth)) {
                return false;
            }
            for (int i = 0; i < ONES && tape.word == Word.OR; i++) {
                tape.advance();
                if (!readAll(tape, depth)) {
                    return false;
                }
                add(Word.OR, 0, 0);
            }
            return true;
        }

        private boolean readAll(Tape tape, int depth) {
            if (!readOne(tape, depth)) {
                return false;
            }
            for (int i = 0; i < ONES && tape.word == Word.AND; i++) {
                tape.advance();
                if (!readOne(tape, depth)) {
                    return false;
                }
                add(Word.AND, 0, 0);
            }
            return true;
        }

        private boolean readOne(Tape tape, int depth) {
            Word word = tape.word;
            boolean bracket = tape.isSign('(');
            if (!bracket && !begins(word)) {
                return tape.refuse(NO_TOKEN);
            }
            if (ones >= ONES || depth > DEPTH) {
                return tape.refuse(TOO_MANY);
            }
            ones++;
            tape.advance();
            if (bracket) {
                return readCond(tape, depth + 1) && readClosing(tape);
            }
            if (word == Word.NOT) {
                return readOne(tape, depth + 1) && add(Word.NOT, 0, 0);
            }
            if (word == Word.SHORES || word == Word.THIRSTY) {
                return add(word, 0, 0);
            }
            return readMeasure(tape, word);
        }

        private static boolean begins(Word word) {
            return word != null && (word == Word.NOT || word == Word.SHORES
                || word == Word.THIRSTY || word.isMeasure());
        }

        private boolean readClosing(Tape tape) {
            if (!tape.isSign(')')) {
                return tape.refuse(NO_TOKEN);
            }
            tape.advance();
            return true;
        }

        private boolean readMeasure(Tape tape, Word word) {
            if (!tape.isSign('<') && !tape.isSign('=') && !tape.isSign('>')) {
                return tape.refuse(NO_TOKEN);
            }
            int sign = tape.sign;
            int number = tape.nextNumber(0, MOST_NUMBER);
            if (number == NONE) {
                return false;
            }
            tape.advance();
            return add(word, sign, number);
        }

        /** Whether it may be said of a town by a YEAR. */
        boolean holds(Plain plain, Year year, int town) {
            int top = 0;
            for (int i = 0; i < size && i < STEPS; i++) {
                Word step = steps[i];
                if (step == Word.NOT && top >= 1) {
                    stack[top - 1] = !stack[top - 1];
                } else if (step == Word.AND && top >= 2) {
                    top--;
                    stack[top - 1] = stack[top - 1] && stack[top];
                } else if (step == Word.OR && top >= 2) {
                    top--;
                    stack[top - 1] = stack[top - 1] || stack[top];
                } else if (top < STEPS) {
                    stack[top] = holdsOne(plain, year, town, i);
                    top++;
                }
            }
            return top > 0 && stack[top - 1];
        }

        private boolean holdsOne(Plain plain, Year year, int town, int i) {
            Word step = steps[i];
            if (step == null) {
                return false;
            }
            if (step == Word.SHORES) {
                return year.of[town][SHORE] == 1;
            }
            if (step == Word.THIRSTY) {
                return year.lacks(plain, town);
            }
            boolean told = step.what >= 0 && step.what < OF_TOWN;
            int value = told ? year.of[town][step.what] : town;
            if (signs[i] == '<') {
                return value < numbers[i];
            }
            return signs[i] == '=' ? value == numbers[i] : value > numbers[i];
        }
    }

    /** A YEAR, as far as it has gone. */
    static final class Year {
        boolean running = false;
        int months = 0;
        int treasury = 0;
        final int[] letTo = new int[MONTHS];
        final int[] letAlso = new int[MONTHS];
        final int[] letFor = new int[MONTHS];
        final int[][] of = new int[MOST_TOWNS][OF_TOWN];
        private int lies = SEA;
        private int fish = 0;
        private int rained = 0;
        private int used = 0;
        private int seeped = 0;
        private int atSea = 0;
        private int lettings = 0;
        private int moves = 0;

        void start(Plain plain) {
            running = true;
            months = 0;
            treasury = 0;
            lies = SEA;
            fish = plain.fish;
            rained = 0;
            used = 0;
            seeped = 0;
            atSea = 0;
            lettings = 0;
            moves = 0;
            for (int town = 0; town < MOST_TOWNS; town++) {
                for (int what = 0; what < OF_TOWN; what++) {
                    of[town][what] = 0;
                }
                of[town][PURSE] = plain.told[town][FIRST_PURSE];
            }
        }

        void copy(Year from) {
            running = from.running;
            months = from.months;
            treasury = from.treasury;
            System.arraycopy(from.letTo, 0, letTo, 0, MONTHS);
            System.arraycopy(from.letAlso, 0, letAlso, 0, MONTHS);
            System.arraycopy(from.letFor, 0, letFor, 0, MONTHS);
            for (int town = 0; town < MOST_TOWNS; town++) {
                System.arraycopy(from.of[town], 0, of[town], 0, OF_TOWN);
            }
            lies = from.lies;
            fish = from.fish;
            rained = from.rained;
            used = from.used;
            seeped = from.seeped;
            atSea = from.atSea;
            lettings = from.lettings;
            moves = from.moves;
        }

        int number(int what) {
            switch (what) {
                case 0: return months;
                case 1: return lies;
                case 2: return treasury;
                case 3: return fish;
                case 4: return rained;
                case 5: return used;
                case 6: return seeped;
                case 7: return atSea;
                case 8: return inPonds();
                case 9: return lettings;
                case 10: return moves;
                default: return NONE - 1000;
            }
        }

        private int inPonds() {
            int all = 0;
            for (int town = 0; town < MOST_TOWNS; town++) {
                all += of[town][POND];
            }
            return all;
        }

        boolean lacks(Plain plain, int town) {
            return of[town][CAME] < plain.told[town][NEED];
        }

        void goOn(Plain plain, Contracts deals, int n) {
            for (int i = 0; i < n && months < MONTHS; i++) {
                nextMonth(plain, deals, 0);
            }
        }

        /** The months that are left, with more WATER in each as a seed draws it. */
        void draw(Plain plain, Contracts deals, int seed) {
            int x = seed;
            for (int i = 0; i < MONTHS && months < MONTHS; i++) {
                x = x * 1103515245 + 12345;
                nextMonth(plain, deals, (x >>> 8) % MORE_WATER);
            }
        }

        void nextMonth(Plain plain, Contracts deals, int more) {
            if (months >= MONTHS) {
                return;
            }
            if (deals.tells(months)) {
                letByContract(deals);
            } else {
                letByBids(plain);
            }
            moveRiver(plain);
            pour(plain, plain.water[months] + more);
            for (int town = 0; town < plain.towns; town++) {
                drink(plain, town);
            }
            months++;
            if (months == MONTHS) {
                harvest(plain);
            }
        }

        boolean canPay(int town, int sum) {
            return of[town][SHORE] == 0 && of[town][PURSE] >= sum;
        }

        private void letByContract(Contracts deals) {
            int first = deals.first[months];
            int second = deals.second[months];
            int sum = deals.cost[months];
            letTo[months] = SEA;
            letAlso[months] = NONE;
            letFor[months] = 0;
            if (first == SEA) {
                return;
            }
            int lesser = second == NONE ? 0 : sum / 2;
            boolean bothPay = second == NONE || canPay(second, lesser);
            if (canPay(first, sum - lesser) && bothPay) {
                letTo[months] = first;
                letAlso[months] = second;
                letFor[months] = sum;
                pay(first, sum - lesser);
                if (second != NONE) {
                    pay(second, lesser);
                }
            }
        }

        private void letByBids(Plain plain) {
            int who = SEA;
            int most = 0;
            for (int town = 0; town < plain.towns; town++) {
                int bid = plain.bids[town][months];
                if (bid > most && canPay(town, bid)) {
                    most = bid;
                    who = town;
                }
            }
            letTo[months] = who;
            letAlso[months] = NONE;
            letFor[months] = most;
            if (who != SEA) {
                pay(who, most);
            }
        }

        /** The least bid by which a month goes to a town, whether the town has as much or not. */
        int leastBid(Plain plain, int town, int month) {
            int least = 1;
            for (int other = 0; other < plain.towns; other++) {
                int bid = plain.bids[other][month];
                if (other != town && bid > 0 && canPay(other, bid)) {
                    // Of like bids the first one wins.
                    least = Math.max(least, other < town ? bid + 1 : bid);
                }
            }
            return least;
        }

        private void pay(int town, int sum) {
            of[town][PURSE] -= sum;
            of[town][PAID] += sum;
            treasury += sum;
        }

        private void moveRiver(Plain plain) {
            int to = letTo[months];
            int way = Math.abs(plain.placeOf(to) - plain.placeOf(lies));
            int toPay = plain.move * way + bridgeTo(plain, to) + bridgeTo(plain, letAlso[months]);
            moves += toPay;
            treasury -= toPay;
            fish = Math.max(0, fish - way);
            lies = to;
        }

        /** What the bridge of a town costs in this month; nothing for the SEA and for NONE. */
        private int bridgeTo(Plain plain, int town) {
            if (town == SEA || town == NONE) {
                return 0;
            }
            int ahead = months - 1;
            boolean there = ahead >= 0 && (letTo[ahead] == town || letAlso[ahead] == town);
            return there ? 0 : plain.told[town][BRIDGE];
        }

        private void pour(Plain plain, int water) {
            int first = letTo[months];
            int second = letAlso[months];
            rained += water;
            if (first == SEA) {
                atSea += water;
                return;
            }
            lettings++;
            int lesser = second == NONE ? 0 : water / 2;
            pourTo(plain, first, water - lesser);
            if (second != NONE) {
                pourTo(plain, second, lesser);
            }
        }

        private void pourTo(Plain plain, int town, int water) {
            int[] its = of[town];
            int seep = Math.min(water, plain.told[town][SEEP]);
            int left = water - seep;
            int came = Math.min(left, plain.told[town][STORE] - its[POND]);
            seeped += seep;
            atSea += left - came;
            its[POND] += came;
            its[CAME] += came;
            its[LETS]++;
            its[PURSE] += plain.told[town][MILL];
        }

        private void drink(Plain plain, int town) {
            int[] its = of[town];
            int use = plain.told[town][USE];
            int taken = Math.min(use, its[POND]);
            its[POND] -= taken;
            used += taken;
            if (taken < use) {
                its[DRY_ROW]++;
                its[DRY_ALL]++;
            } else {
                its[DRY_ROW] = 0;
            }
            if (its[DRY_ROW] >= plain.patience) {
                its[SHORE] = 1;
                atSea += its[POND];
                its[POND] = 0;
            }
            waterField(plain, town);
        }

        private void waterField(Plain plain, int town) {
            int[] its = of[town];
            int field = plain.told[town][FIELD];
            if (field > 0 && its[POND] >= field) {
                its[POND] -= field;
                used += field;
                its[GREEN_ROW]++;
                its[GREEN_BEST] = Math.max(its[GREEN_BEST], its[GREEN_ROW]);
            } else {
                its[GREEN_ROW] = 0;
            }
        }

        private void harvest(Plain plain) {
            for (int town = 0; town < plain.towns; town++) {
                of[town][HARVEST] = plain.told[town][RATE] * of[town][GREEN_BEST];
                of[town][PURSE] += of[town][HARVEST];
            }
        }

        void leakFrom(int town, int n) {
            of[town][POND] -= Math.min(n, of[town][POND]);
        }
    }

    /** All that an image keeps. */
    static final class State {
        Plain plain = new Plain();
        Contracts deals = new Contracts();
        Sentence sentence = new Sentence();
        final Year year = new Year();

        void copy(State from) {
            plain.copy(from.plain);
            deals.copy(from.deals);
            sentence.copy(from.sentence);
            year.copy(from.year);
        }
    }

    /** The latest offers that were done, the oldest first. */
    static final class Undo {
        private static final int MOST = 8;

        private final int[] towns = new int[MOST];
        private final int[] months = new int[MOST];
        private final int[] before = new int[MOST];
        int size = 0;

        void keep(int town, int month, int bid) {
            if (size >= MOST) {
                System.arraycopy(towns, 1, towns, 0, MOST - 1);
                System.arraycopy(months, 1, months, 0, MOST - 1);
                System.arraycopy(before, 1, before, 0, MOST - 1);
                size = MOST - 1;
            }
            towns[size] = town;
            months[size] = month;
            before[size] = bid;
            size++;
        }

        int back(Plain plain) {
            if (size <= 0) {
                return NONE;
            }
            size--;
            plain.setBid(towns[size], months[size], before[size]);
            return size;
        }
    }

    /**
     * The CHEAPEST letting.
     *
     * Of the plans that water all towns the SEA stands in the first of the cheapest ones in all
     * months or in none: a month of the SEA put to the town ahead of it (or behind it, at the
     * start) costs no more and comes earlier. So the search tries towns alone, in their order, and
     * a plan that is found later must be cheaper to be taken. What the last months can bring is
     * listed once, so that months without WATER don't make the search long.
     */
    static final class Cheapest {
        static final int TOWNS = 3;
        /** The first of the last months. */
        private static final int TAIL = 8;
        /** Three towns for each of the last four months. */
        private static final int TAILS = 81;
        /** More than any plan costs. */
        private static final int BEYOND_ALL = 1000000;

        /** The plan of the latest search that found one, and of which PLAIN it is. */
        final int[] plan = new int[MONTHS];
        boolean done = false;
        int planned = 0;

        private int solved = NONE;
        private int answer = NONE;
        private int towns = 0;
        private int move = 0;
        private final int[] bridges = new int[TOWNS];
        private final int[] lacks = new int[TOWNS];
        private final int[][] gains = new int[TOWNS][MONTHS];
        /** What the months from one on bring a town, and bring at most if each goes to the best. */
        private final int[][] rest = new int[TOWNS][MONTHS + 1];
        private final int[] restBest = new int[MONTHS + 1];
        /** The ways of the last months, the first one first: what each brings a town and costs. */
        private final int[][] tailGains = new int[TOWNS][TAILS];
        private final int[] tailCosts = new int[TAILS];
        private final int[] tailTowns = new int[TAILS];
        private int tails = 0;
        private final int[] path = new int[MONTHS];
        private final int[] best = new int[MONTHS];
        private int bestPaid = 0;

        /** What is paid; NONE: it can't be. */
        int solve(Plain plain) {
            if (plain.serial != solved) {
                solved = plain.serial;
                answer = searchPlan(plain);
            }
            return answer;
        }

        private int searchPlan(Plain plain) {
            prepare(plain);
            listTails();
            bestPaid = BEYOND_ALL;
            tryMonth(0, towns, 0);
            if (bestPaid == BEYOND_ALL) {
                return NONE;
            }
            for (int month = 0; month < MONTHS; month++) {
                plan[month] = best[month] == towns ? SEA : best[month];
            }
            done = true;
            planned = plain.serial;
            return bestPaid;
        }

        private void prepare(Plain plain) {
            towns = Math.min(plain.towns, TOWNS);
            move = plain.move;
            restBest[MONTHS] = 0;
            for (int town = 0; town < towns; town++) {
                bridges[town] = plain.told[town][BRIDGE];
                lacks[town] = plain.told[town][NEED];
                rest[town][MONTHS] = 0;
            }
            for (int month = MONTHS - 1; month >= 0; month--) {
                int most = 0;
                for (int town = 0; town < towns; town++) {
                    gains[town][month] = plain.gain(town, month);
                    rest[town][month] = rest[town][month + 1] + gains[town][month];
                    most = Math.max(most, gains[town][month]);
                }
                restBest[month] = restBest[month + 1] + most;
            }
        }

        /** Puts each town ahead of each way that is listed, from the last month back. */
        private void listTails() {
            tails = 1;
            tailCosts[0] = 0;
            for (int town = 0; town < TOWNS; town++) {
                tailGains[town][0] = 0;
            }
            for (int month = MONTHS - 1; month >= TAIL; month--) {
                // The first town comes last: its ways take the places of those that are read.
                for (int town = towns - 1; town >= 0; town--) {
                    for (int i = 0; i < tails; i++) {
                        putAhead(month, town, i, town * tails + i);
                    }
                }
                tails *= towns;
            }
        }

        private void putAhead(int month, int town, int from, int to) {
            if (to >= TAILS) {
                return;
            }
            boolean last = month == MONTHS - 1;
            tailCosts[to] = last ? 0 : tailCosts[from] + costOf(town, tailTowns[from]);
            for (int t = 0; t < towns; t++) {
                tailGains[t][to] = tailGains[t][from];
            }
            tailGains[town][to] += gains[town][month];
            tailTowns[to] = town;
        }

        /** Tries all towns for a month and those behind it; the place of the SEA is towns. */
        private void tryMonth(int month, int at, int paid) {
            if (paid + leastToCome(at) >= bestPaid) {
                return;
            }
            if (!lacksAny()) {
                keepPath(month, paid);
                stayFrom(month, at);
                return;
            }
            if (!canBe(month)) {
                return;
            }
            if (month >= TAIL) {
                tryTails(at, paid);
                return;
            }
            for (int town = 0; town < towns; town++) {
                path[month] = town;
                lacks[town] -= gains[town][month];
                tryMonth(month + 1, town, paid + costOf(at, town));
                lacks[town] += gains[town][month];
            }
        }

        private boolean lacksAny() {
            for (int town = 0; town < towns; town++) {
                if (lacks[town] > 0) {
                    return true;
                }
            }
            return false;
        }

        private boolean canBe(int month) {
            int all = 0;
            for (int town = 0; town < towns; town++) {
                if (lacks[town] > rest[town][month]) {
                    return false;
                }
                all += Math.max(0, lacks[town]);
            }
            return all <= restBest[month];
        }

        private int costOf(int from, int town) {
            return from == town ? 0 : move * Math.abs(from - town) + bridges[town];
        }

        /** Less than this can't be paid any more: each town that lacks WATER must be come to. */
        private int leastToCome(int at) {
            int back = 0;
            int ahead = 0;
            int toPay = 0;
            for (int town = 0; town < towns; town++) {
                if (lacks[town] > 0 && town != at) {
                    toPay += bridges[town];
                    back = Math.max(back, at - town);
                    ahead = Math.max(ahead, town - at);
                }
            }
            return toPay + move * (back + ahead + Math.min(back, ahead));
        }

        private void keepPath(int months, int paid) {
            bestPaid = paid;
            for (int month = 0; month < months && month < MONTHS; month++) {
                best[month] = path[month];
            }
        }

        /** All needs are met: the months that are left go the first way that costs nothing. */
        private void stayFrom(int month, int at) {
            int place = at;
            for (int i = month; i < MONTHS; i++) {
                place = firstForNothing(place);
                best[i] = place;
            }
        }

        private int firstForNothing(int from) {
            for (int town = 0; town < towns; town++) {
                if (costOf(from, town) == 0) {
                    return town;
                }
            }
            return from;
        }

        private void tryTails(int at, int paid) {
            for (int i = 0; i < tails && i < TAILS; i++) {
                int all = paid + tailCosts[i];
                if (all < bestPaid && meetsNeeds(i)) {
                    all += costOf(at, tailTowns[i]);
                    if (all < bestPaid) {
                        keepPath(TAIL, all);
                        keepTail(i);
                    }
                }
            }
        }

        private boolean meetsNeeds(int tail) {
            for (int town = 0; town < towns; town++) {
                if (tailGains[town][tail] < lacks[town]) {
                    return false;
                }
            }
            return true;
        }

        /** The number of a way, written by the numbers of the towns, tells its towns. */
        private void keepTail(int tail) {
            int left = tail;
            for (int month = MONTHS - 1; month >= TAIL && towns > 0; month--) {
                best[month] = left % towns;
                left /= towns;
            }
        }
    }

    /** ROUNDS of prices, as the latest ones ended. */
    static final class Rounds {
        boolean done = false;
        final int[] monthOf = new int[MOST_TOWNS];
        final int[] prices = new int[MONTHS];
        private final int[] owner = new int[MONTHS];

        /** How many till they REST. */
        int run(Plain plain, int step) {
            clear();
            for (int round = 1; round <= MOST_ROUNDS; round++) {
                boolean took = false;
                for (int town = 0; town < plain.towns; town++) {
                    if (monthOf[town] == NONE && takeBest(plain, town, step)) {
                        took = true;
                    }
                }
                if (!took) {
                    return round;
                }
            }
            return MOST_ROUNDS;
        }

        private void clear() {
            done = true;
            for (int town = 0; town < MOST_TOWNS; town++) {
                monthOf[town] = NONE;
            }
            for (int month = 0; month < MONTHS; month++) {
                prices[month] = 0;
                owner[month] = NONE;
            }
        }

        private int priceNow(int month, int step) {
            return owner[month] == NONE ? prices[month] : prices[month] + step;
        }

        private boolean takeBest(Plain plain, int town, int step) {
            int month = NONE;
            int most = 0;
            for (int m = 0; m < MONTHS; m++) {
                int left = plain.bids[town][m] - priceNow(m, step);
                if (left > most) {
                    most = left;
                    month = m;
                }
            }
            if (month == NONE) {
                return false;
            }
            prices[month] = priceNow(month, step);
            if (owner[month] != NONE) {
                monthOf[owner[month]] = NONE;
            }
            owner[month] = town;
            monthOf[town] = month;
            return true;
        }
    }

    /** LEAKS by levels that were told of all ponds. */
    static final class Leaks {
        static final int MOST = 40;
        private static final int MOST_LOSS = 9;

        /** The first LEAKS of the latest search: the town, the month, the loss of each. */
        final int[][] found = new int[MOST][3];
        int kept = 0;
        private int all = 0;
        private final boolean[] levelsTold = new boolean[MONTHS];
        private final int[][] levels = new int[MONTHS][MOST_TOWNS];
        private int last = 0;
        private final Year tight = new Year();
        private final Year leaking = new Year();

        /** Whether the tape tells levels of 1 to 12 months, rising, and nothing else. */
        boolean readLevels(Tape tape, int towns) {
            int bytes = 1 + 2 * towns;
            for (int month = 0; month < MONTHS; month++) {
                levelsTold[month] = false;
            }
            last = NONE;
            int from = 0;
            while (from < tape.size && from + bytes <= tape.size) {
                int month = tape.valueAt(from);
                if (month <= last || month >= MONTHS) {
                    return false;
                }
                for (int town = 0; town < towns && town < MOST_TOWNS; town++) {
                    int at = from + 1 + 2 * town;
                    levels[month][town] = tape.valueAt(at) * 256 + tape.valueAt(at + 1);
                }
                levelsTold[month] = true;
                last = month;
                from += bytes;
            }
            return last != NONE && from == tape.size;
        }

        /** How many LEAKS there are. */
        int run(Plain plain, Contracts deals) {
            kept = 0;
            all = 0;
            for (int town = 0; town < plain.towns; town++) {
                tight.start(plain);
                boolean fits = true;
                for (int month = 0; month < MONTHS && fits; month++) {
                    for (int loss = 1; loss <= MOST_LOSS; loss++) {
                        if (comesBy(plain, deals, town, loss)) {
                            keep(town, month, loss);
                        }
                    }
                    tight.nextMonth(plain, deals, 0);
                    fits = asTold(tight, plain.towns);
                }
            }
            return all;
        }

        /** Whether the levels come, if a town's pond leaks from the next month of tight on. */
        private boolean comesBy(Plain plain, Contracts deals, int town, int loss) {
            if (tight.months > last) {
                return true;
            }
            leaking.copy(tight);
            for (int i = 0; i < MONTHS && leaking.months <= last; i++) {
                leaking.nextMonth(plain, deals, 0);
                leaking.leakFrom(town, loss);
                if (!asTold(leaking, plain.towns)) {
                    return false;
                }
            }
            return true;
        }

        /** Whether the ponds behind the month done last are as told, or nothing is told of it. */
        private boolean asTold(Year year, int towns) {
            int month = year.months - 1;
            if (month < 0 || month >= MONTHS || !levelsTold[month]) {
                return true;
            }
            for (int town = 0; town < towns; town++) {
                if (year.of[town][POND] != levels[month][town]) {
                    return false;
                }
            }
            return true;
        }

        private void keep(int town, int month, int loss) {
            if (kept < MOST) {
                found[kept][0] = town;
                found[kept][1] = month;
                found[kept][2] = loss;
                kept++;
            }
            all++;
        }
    }
}

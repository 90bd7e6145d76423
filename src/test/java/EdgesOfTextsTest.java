/** Terms: each sentence about TOKENS and texts that names a boundary, at it and just beyond it. */
public final class EdgesOfTextsTest {
    private static final Check check = new Check();
    private static final String A = "town a 0 9 0 9;";
    private static final String AB = A + "town b 0 9 0 9;";
    private static final String[] WORDS = {"town", "water", "bid", "need", "mill", "bridge", "field",
        "move", "fish", "patience", "let", "sea", "or", "and", "not", "shore", "thirsty", "pond",
        "purse", "paid", "dry", "lets", "green", "place"};

    public static void main(String[] args) {
        blanks();
        signsThatAreNoTokens();
        lettersOfAWord();
        digitsOfANumber();
        aRunGoesOn();
        numbersOfRows();
        numbersOfContracts();
        numbersOfSentences();
        knownWordsAreNoNames();
        namesLikeKnownWords();
        toldOnce();
        toldOnceOfEachTown();
        unlikeTowns();
        eightTowns();
        fortyBids();
        twentyOnes();
        eightWithin();
        mostBytes();
        tokensAcrossTheLastByte();
        theEnd();
        theFirstAlongTheText();
        ofOneTokenTheLeast();
        check.end();
    }

    private static int read(RentRiver river, char kind, String text) {
        if (kind == 'p') {
            return Check.plain(river, text);
        }
        return kind == 'c' ? Check.contracts(river, text) : Check.sentence(river, text);
    }

    /** A text that is refused: its fault, and that nothing but the fault and the tape changed. */
    private static void refused(char kind, String plain, String text, int faultKind, int place) {
        RentRiver river = Check.river(plain);
        if (plain.isEmpty() && kind != 'p') {
            river = new RentRiver();
        }
        Check.contracts(river, "sea 7;");
        Check.sentence(river, "place < 3");
        river.begin();
        river.on(2);
        Seen before = Seen.of(river);
        check.fault(river, text, read(river, kind, text), faultKind, place);
        read(river, 's', "place < 3");
        check.due("fault() behind a text without one", river.fault(), 0);
        check.unchanged("a text that is refused: " + text, before, river);
    }

    private static void plainFault(String text, int kind, int place) {
        refused('p', AB, text, kind, place);
    }

    private static void contractFault(String text, int kind, int place) {
        refused('c', AB, text, kind, place);
    }

    private static void sentenceFault(String text, int kind, int place) {
        refused('s', AB, text, kind, place);
    }

    private static void plainRows(String text, int rows) {
        RentRiver river = new RentRiver();
        check.due("plain() of '" + text + "'", Check.plain(river, text), rows);
        check.due("fault() of '" + text + "'", river.fault(), 0);
    }

    private static void contractRows(String text, int rows) {
        RentRiver river = Check.river(AB);
        check.due("contracts() of '" + text + "'", Check.contracts(river, text), rows);
        check.due("fault() of '" + text + "'", river.fault(), 0);
    }

    private static void ones(String text, int due) {
        RentRiver river = new RentRiver();
        check.due("sentence() of '" + text + "'", Check.sentence(river, text), due);
        check.due("fault() of '" + text + "'", river.fault(), 0);
    }

    /** "blanks (32, 10) between them or not" */
    private static void blanks() {
        plainRows(" \n move\n\n1 \n;\n", 1);
        plainRows("move 1;fish 1;", 2);
        contractRows("\nlet\n1\na\nb\n1\n;\n", 1);
        ones("\nnot\n(\npond\n<\n1\n)\n", 3);
        ones("not(pond<1)", 3);
        for (int sign : new int[] {0, 9, 11, 13, 31, 33, 160}) {
            plainFault("move" + (char) sign + "1;", 1, 4);
            contractFault("sea" + (char) sign + "1;", 1, 3);
            sentenceFault("dry" + (char) sign + "<1", 1, 3);
        }
    }

    /** The signs ; < = > ( ) and those beside them. */
    private static void signsThatAreNoTokens() {
        for (int sign = 0; sign < 256; sign++) {
            boolean letter = sign >= 'a' && sign <= 'z';
            boolean digit = sign >= '0' && sign <= '9';
            boolean blank = sign == 32 || sign == 10;
            if (!letter && !digit && !blank && sign != ';') {
                plainFault("move 1" + (char) sign, 1, 6);
            }
        }
        for (int sign : new int[] {59, 63, 39, 42, 46, 33}) {
            sentenceFault("dry " + (char) sign + " 1", 1, 4);
        }
        for (char sign : new char[] {'<', '=', '>'}) {
            ones("dry" + sign + "1", 1);
        }
    }

    /** "WORDS: small letters, 1 to 8" */
    private static void lettersOfAWord() {
        plainRows("town a 0 0 0 0;", 1);
        plainRows("town z 0 0 0 0;", 1);
        plainRows("town abcdefgh 0 0 0 0;bid abcdefgh 0 1;", 2);
        plainRows("town zzzzzzzz 0 0 0 0;", 1);
        plainFault("town abcdefghi 0 0 0 0;", 1, 5);
        plainFault("town zzzzzzzzzzzzzzzzz 0 0 0 0;", 1, 5);
        plainFault("town aB 0 0 0 0;", 1, 6);
        plainFault("town a` 0 0 0 0;", 1, 6);
        plainFault("town a{ 0 0 0 0;", 1, 6);
        // Names that are alike in their first or last letters are two names.
        plainRows("town abcdefgh 0 0 0 0;town bcdefgh 0 0 0 0;town abcdefg 0 0 0 0;town h 0 0 0 0;", 4);
        RentRiver river = Check.river("town ab 0 9 0 9;town b 0 9 0 9;town a 0 9 0 9;bid a 1 3;");
        check.due("bid(2, 1)", river.bid(2, 1), 3);
        // A word of nine letters is no TOKEN, whatever its last eight are.
        plainFault("xpatience 3;", 1, 0);
        sentenceFault("aathirsty", 1, 0);
        plainFault("town xaaaaaaaa 0 0 0 0;town aaaaaaaa 0 0 0 0;", 1, 5);
    }

    /** "NUMBERS: 1 to 3 digits" */
    private static void digitsOfANumber() {
        plainRows("fish 0;", 1);
        plainRows("fish 00;", 1);
        plainRows("fish 000;", 1);
        plainRows("fish 999;", 1);
        plainRows("move 099;", 1);
        plainFault("fish 0000;", 1, 5);
        plainFault("fish 1000;", 1, 5);
        plainFault("fish 99999999999999999999;", 1, 5);
        plainFault("fish 4294967297;", 1, 5);
        contractFault("let 0001 a 1;", 1, 4);
        sentenceFault("dry < 0001", 1, 6);
        plainFault("fish /1;", 1, 5);
        plainFault("fish 1:;", 1, 6);
    }

    /** "A WORD, NUMBER goes on as long as small letters and digits do" */
    private static void aRunGoesOn() {
        plainFault("town a1 0 0 0 0;", 1, 5);
        plainFault("town 1a 0 0 0 0;", 1, 5);
        plainFault("move1;", 1, 0);
        plainFault("1move 1;", 1, 0);
        plainFault("move 1a;", 1, 5);
        contractFault("let 1a 1;", 1, 4);
        contractFault("let 1 a1;", 1, 6);
        sentenceFault("dry<1and shore", 1, 4);
        sentenceFault("shore1", 1, 0);
        ones("dry<1 and shore", 2);
    }

    /** A row whose number, behind its beginning, may be from least to greatest. */
    private static void number(String plain, String ahead, String behind, int least, int greatest) {
        plainRows(plain + ahead + least + behind, rowsOf(plain) + 1);
        plainRows(plain + ahead + greatest + behind, rowsOf(plain) + 1);
        int place = (plain + ahead).length();
        if (least > 0) {
            plainFault(plain + ahead + (least - 1) + behind, 2, place);
        }
        // A number above 999 has four digits and is no TOKEN.
        plainFault(plain + ahead + (greatest + 1) + behind, greatest == 999 ? 1 : 2, place);
    }

    private static int rowsOf(String text) {
        return text.length() - text.replace(";", "").length();
    }

    private static void numbersOfRows() {
        number("", "town a ", " 0 0 0;", 0, 99);
        number("", "town a 0 ", " 0 0;", 0, 999);
        number("", "town a 0 0 ", " 0;", 0, 99);
        number("", "town a 0 0 0 ", ";", 0, 999);
        number("", "water ", " 0;", 0, 11);
        number("", "water 0 ", ";", 0, 999);
        number(A, "bid a ", " 1;", 0, 11);
        number(A, "bid a 0 ", ";", 1, 999);
        number(A, "need a ", ";", 0, 999);
        number(A, "mill a ", ";", 0, 99);
        number(A, "bridge a ", ";", 0, 99);
        number(A, "field a ", " 0;", 0, 99);
        number(A, "field a 0 ", ";", 0, 99);
        number("", "move ", ";", 0, 99);
        number("", "fish ", ";", 0, 999);
        number("", "patience ", ";", 1, 12);
        plainFault("move 999;", 2, 5);
        plainFault("patience 999;", 2, 9);
        plainFault("water 999 1;", 2, 6);
        plainFault(A + "mill a 999;", 2, 22);
    }

    private static void numbersOfContracts() {
        contractRows("let 0 a 0;let 11 a 999;sea 10;", 3);
        contractRows("sea 0;sea 11;", 2);
        contractFault("let 12 a 0;", 2, 4);
        contractFault("sea 12;", 2, 4);
        contractFault("sea 999;", 2, 4);
        contractFault("let 0 a 1000;", 1, 8);
        contractFault("let 0 a b 1000;", 1, 10);
    }

    private static void numbersOfSentences() {
        ones("pond < 0 or pond = 999", 2);
        sentenceFault("pond < 1000", 1, 7);
    }

    /** "NAME: a WORD, none of those told here, in CONTRACTS or in a SENTENCE" */
    private static void knownWordsAreNoNames() {
        for (String word : WORDS) {
            plainFault("town " + word + " 0 0 0 0;", 1, 5);
            plainFault(A + "need " + word + " 1;", 1, 20);
            contractFault("let 1 " + word + " 1;", 1, 6);
            contractFault("let 1 a " + word + " 1;", 1, 8);
        }
    }

    private static void namesLikeKnownWords() {
        String[] names = {"towns", "tow", "month", "name", "seep", "store", "use", "rate", "price",
            "contract", "cond", "all", "one", "sign", "number", "row", "harvest", "seas", "shores",
            "ponds", "an", "ore"};
        for (String name : names) {
            plainRows("town " + name + " 0 0 0 0;mill " + name + " 1;", 2);
        }
    }

    /** "each MONTH once", "once each": told again, though it was told as it would be without. */
    private static void toldOnce() {
        plainRows("water 0 0;water 1 0;water 11 0;", 3);
        plainFault("water 0 0;water 0 0;", 3, 16);
        plainFault("water 11 0;water 011 0;", 3, 17);
        plainFault("water 0 0;water 1 0;water 0 0;", 3, 26);
        plainFault("move 0;move 0;", 3, 7);
        plainFault("fish 0;fish 0;", 3, 7);
        plainFault("patience 3;patience 3;", 3, 11);
        plainRows("move 0;fish 0;patience 3;", 3);
        contractRows("sea 0;sea 1;", 2);
        contractFault("sea 0;sea 0;", 3, 10);
        contractFault("let 0 a 1;sea 00;", 3, 14);
        contractFault("sea 11;let 11 a 1;", 3, 11);
        contractFault("let 3 a b 1;let 3 b a 1;", 3, 16);
    }

    /** "each TOWN once", "each TOWN once each", "each two once" */
    private static void toldOnceOfEachTown() {
        plainRows(AB + "need a 0;need b 0;mill a 0;mill b 0;bridge a 0;bridge b 0;field a 0 0;field b 0 0;", 10);
        plainFault(AB + "need a 0;need b 0;need a 0;", 3, 53);
        plainFault(AB + "need a 0;mill a 0;need a 0;", 3, 53);
        plainFault(AB + "mill b 0;mill a 0;mill b 0;", 3, 53);
        plainFault(AB + "bridge a 0;bridge a 0;", 3, 48);
        plainFault(AB + "field b 0 0;field b 0 0;", 3, 48);
        plainRows(AB + "bid a 0 1;bid b 0 1;bid a 1 1;bid b 1 1;", 6);
        plainFault(AB + "bid a 0 1;bid b 0 1;bid a 0 1;", 3, 56);
        plainFault(AB + "bid b 11 1;bid b 11 2;", 3, 47);
        plainFault(A + "town a 0 9 0 9;", 3, 20);
        plainFault(AB + "town b 9 9 9 9;", 3, 35);
        plainFault("bid a 0 1;", 3, 4);
        plainFault("need a 1;" + A, 3, 5);
        plainFault(A + "mill b 1;town b 0 0 0 0;", 3, 20);
        plainFault(A + "bridge aa 1;", 3, 22);
        plainFault(A + "field b 1 1;", 3, 21);
        contractFault("let 0 c 1;", 3, 6);
        contractFault("let 0 a c 1;", 3, 8);
    }

    /** "TOWNS unlike", "a TOWN like the other (at it)" */
    private static void unlikeTowns() {
        contractRows("let 0 a b 1;let 1 b a 1;", 2);
        contractFault("let 0 a a 1;", 3, 8);
        contractFault("let 0 b b 1;", 3, 8);
    }

    private static String towns(int n) {
        StringBuilder text = new StringBuilder();
        for (int i = 0; i < n; i++) {
            text.append("town ").append((char) ('a' + i)).append(" 0 9 0 9;");
        }
        return text.toString();
    }

    /** "8 TOWNS .. at most, numbered from 0", "a ninth TOWN (at the ROW's first WORD)" */
    private static void eightTowns() {
        plainRows(towns(8), 8);
        RentRiver river = Check.river(towns(8) + "mill a 1;mill h 9;");
        check.due("told(0, 5)", river.told(0, 5), 1);
        check.due("told(7, 5)", river.told(7, 5), 9);
        plainFault(towns(8) + "bid i 0 1;", 3, 124);
        plainFault(towns(9), 4, 120);
        plainFault(towns(8) + "town a", 4, 120);
        plainFault(towns(8) + "town 1", 4, 120);
        plainFault(towns(8) + "town", 4, 120);
        plainFault(towns(8) + "move 1;town i 0 9 0 9;", 4, 127);
    }

    private static String bids(int n) {
        StringBuilder text = new StringBuilder(towns(4));
        for (int i = 0; i < n; i++) {
            text.append("bid ").append((char) ('a' + i / 12)).append(' ').append(i % 12).append(" 1;");
        }
        return text.toString();
    }

    /** "40 bids at most", "a 41st bid (at the ROW's first WORD)" */
    private static void fortyBids() {
        plainRows(bids(40), 44);
        int place = bids(40).length();
        plainFault(bids(41), 4, place);
        plainFault(bids(40) + "bid a 0 1;", 4, place);
        plainFault(bids(40) + "bid x", 4, place);
        plainFault(bids(40) + "bid", 4, place);
        plainRows(bids(40) + "move 1;", 45);
    }

    /** "20 ONES", "a 21st ONE .. (at its first TOKEN)": each not, bracket and other one. */
    private static void twentyOnes() {
        String nineteen = "shore" + Check.times(" or shore", 18);
        ones(nineteen, 19);
        ones(nineteen + " or pond=1", 20);
        ones("dry=1" + Check.times(" and dry=1", 19), 20);
        ones("shore" + Check.times(" or not dry=1", 9) + " or dry=1", 20);
        ones("shore" + Check.times(" or(dry=1)", 9) + " or dry=1", 20);
        int place = nineteen.length() + 4;
        sentenceFault(nineteen + " or not shore", 4, place + 4);
        sentenceFault(nineteen + " or (shore)", 4, place + 1);
        sentenceFault(nineteen + " or pond=1 and pond=2", 4, place + 11);
        sentenceFault(nineteen + " or pond=1 and not", 4, place + 11);
        sentenceFault(nineteen + " or pond=1 and (", 4, place + 11);
        sentenceFault(nineteen + " or pond=1 and )", 1, place + 11);
        sentenceFault(nineteen + " or pond=1 and", 1, place + 10);
    }

    /** "8 within one another", "a ninth within (at its first TOKEN)" */
    private static void eightWithin() {
        ones(Check.times("not ", 7) + "shore", 8);
        ones(Check.times("(", 7) + "shore" + Check.times(")", 7), 8);
        ones("not(not(not(not shore)))", 8);
        // Those beside one another are not within one another.
        ones("not(not(not(not shore)))and not(not(not(not shore)))", 16);
        ones("(((((((shore and dry=1)or dry=2)or dry=3)))))", 11);
        sentenceFault(Check.times("not ", 8) + "shore", 4, 32);
        sentenceFault(Check.times("(", 8) + "shore" + Check.times(")", 8), 4, 8);
        sentenceFault("not(not(not(not(shore))))", 4, 16);
        sentenceFault("shore or not(not(not(not not shore)))", 4, 29);
        sentenceFault(Check.times("(", 9), 4, 8);
        sentenceFault(Check.times("(", 8) + ")", 1, 8);
    }

    private static String padded(String text, int bytes) {
        return text + Check.times(" ", bytes - text.length());
    }

    /** "at most 900 bytes", "at most 400 bytes", "at most 200 bytes", and a byte more. */
    private static void mostBytes() {
        plainRows(padded("move 1;", 900), 1);
        plainRows(padded("", 900), 0);
        plainRows(padded("", 893) + "move 1;", 1);
        plainFault(padded("move 1;", 901), 1, 900);
        plainFault(padded("", 901), 1, 900);
        plainFault(padded("", 894) + "move 1;", 1, 900);
        plainFault(padded("move 1;", 940), 1, 900);
        contractRows(padded("sea 1;", 400), 1);
        contractRows(padded("", 394) + "sea 1;", 1);
        contractFault(padded("sea 1;", 401), 1, 400);
        contractFault(padded("", 395) + "sea 1;", 1, 400);
        contractFault(padded("sea 1;", 940), 1, 400);
        ones(padded("shore", 200), 1);
        ones(padded("", 195) + "shore", 1);
        sentenceFault(padded("shore", 201), 1, 200);
        sentenceFault(padded("", 196) + "shore", 1, 200);
        sentenceFault(padded("shore", 940), 1, 200);
    }

    /** "TOKENS that begin ahead of it are read whole" */
    private static void tokensAcrossTheLastByte() {
        // Whole, the TOKEN is as told: the fault is that there are more bytes.
        plainFault(padded("", 894) + "fish 99;", 1, 900);
        plainFault(padded("", 897) + "fish", 1, 900);
        plainFault(padded("", 899) + "fish", 1, 900);
        // Whole, it is not as told.
        plainFault(padded("", 899) + "fishes", 1, 899);
        plainFault(padded("", 894) + "move 100;", 2, 899);
        plainFault(padded("", 894) + "fish 1000;", 1, 899);
        plainFault(padded("move 1;", 899) + "move", 3, 899);
        plainFault(towns(8) + padded("", 779) + "town", 4, 899);
        contractFault(padded("", 395) + "sea 12;", 2, 399);
        contractFault(padded("sea 1;", 395) + "sea 01;", 3, 399);
        contractFault(padded("", 393) + "let 1 ab", 3, 399);
        contractFault(padded("", 396) + "sea 1;", 1, 400);
        sentenceFault(padded("", 199) + "shore", 1, 200);
        sentenceFault(padded("", 199) + "shores", 1, 199);
        sentenceFault(padded("", 193) + "dry < 1000", 1, 199);
        sentenceFault(padded("", 193) + "dry < 999", 1, 200);
        // What begins at it is not read.
        plainFault(padded("move 1;", 900) + "?", 1, 900);
        plainFault(padded("move 1;", 900) + "move", 1, 900);
        contractFault(padded("sea 1;", 400) + "sea 12;", 1, 400);
        sentenceFault(padded("shore", 200) + "?", 1, 200);
        // A fault ahead of it comes first.
        plainFault(padded("move 1;?", 901), 1, 7);
        plainFault(padded("", 893) + "move 1?" + "?", 1, 899);
        contractFault(padded("sea 12;", 401), 2, 4);
        sentenceFault(padded("shore shore", 201), 1, 6);
    }

    /** "the end: how many bytes there are" */
    private static void theEnd() {
        plainRows("", 0);
        plainFault("move", 1, 4);
        plainFault("move ", 1, 5);
        plainFault("move 1", 1, 6);
        plainFault("move 1 \n", 1, 8);
        plainFault(padded("move 1", 900), 1, 900);
        contractRows("", 0);
        contractFault("let 1 a", 1, 7);
        contractFault("let 1 a b  ", 1, 11);
        contractFault(padded("sea", 400), 1, 400);
        sentenceFault("", 1, 0);
        sentenceFault("\n", 1, 1);
        sentenceFault("(shore ", 1, 7);
        sentenceFault("not", 1, 3);
        sentenceFault("pond", 1, 4);
        sentenceFault("pond <", 1, 6);
        sentenceFault(padded("not", 200), 1, 200);
    }

    /** "the first along the text" */
    private static void theFirstAlongTheText() {
        plainFault("move 100;?", 2, 5);
        plainFault("move 1?;move 100;", 1, 6);
        plainFault("bid a 12 0;", 3, 4);
        plainFault(A + "bid a 12 0;", 2, 21);
        plainFault(A + "bid a 0 0;bid a 0 0;", 2, 23);
        plainFault("water 12 ?;", 2, 6);
        plainFault("town a 100 1000 100 1000;", 2, 7);
        plainFault(A + "field a 100 100;", 2, 23);
        plainFault("move 100 100;", 2, 5);
        plainFault("fish 9999 9;", 1, 5);
        plainFault("patience 13 13;", 2, 9);
        contractFault("let 12 c c ?;", 2, 4);
        contractFault("let 1 c c ?;", 3, 6);
        contractFault("let 1 a a ?;", 3, 8);
        contractFault("let 1 a c ?;", 3, 8);
        contractFault("let 1 a b ?;", 1, 10);
        sentenceFault("shore or or ?", 1, 9);
        sentenceFault("dry < or ?", 1, 6);
        sentenceFault("dry or ?", 1, 4);
    }

    /** "of one TOKEN the least" */
    private static void ofOneTokenTheLeast() {
        // Not as told, and told again: a month of 12 can't be told again.
        plainFault("water 12 1;water 12 1;", 2, 6);
        // A known word as a name is no name that was told twice.
        plainFault("town town 0 0 0 0;town town 0 0 0 0;", 1, 5);
        // A TOKEN that can't come is no 21st ONE, no ninth within.
        String twenty = "shore" + Check.times(" or shore", 19);
        sentenceFault(twenty + " or place", 4, twenty.length() + 4);
        sentenceFault(twenty + " or places", 1, twenty.length() + 4);
        sentenceFault(Check.times("not ", 8) + "need", 1, 32);
        // A ninth row 'towns' is no TOKEN that can come, not a ninth town.
        plainFault(towns(8) + "towns", 1, 120);
    }
}

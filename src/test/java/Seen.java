import java.util.Arrays;
import java.util.NoSuchElementException;

/** All that the asking calls of an object tell, for tests that nothing changed. */
final class Seen {
    /** What no call answers: it stands for an exception. */
    private static final int THROWN = -77777;

    private final int[] answers = new int[2000];
    private int size = 0;

    private Seen() {
    }

    static Seen of(RentRiver river) {
        Seen seen = new Seen();
        seen.addPlain(river);
        seen.addYear(river);
        seen.addLatest(river);
        return seen;
    }

    boolean same(Seen other) {
        return size == other.size && Arrays.equals(answers, other.answers);
    }

    private void add(int answer) {
        answers[size] = answer;
        size++;
    }

    private void addPlain(RentRiver river) {
        for (int what = 0; what <= 6; what++) {
            add(river.count(what));
        }
        for (int town = 0; town < 8; town++) {
            for (int what = 0; what < 9; what++) {
                add(told(river, town, what));
            }
            for (int month = 0; month < 12; month++) {
                add(river.bid(town, month));
            }
        }
        for (int month = 0; month < 12; month++) {
            add(river.water(month));
            for (int what = 0; what < 3; what++) {
                add(river.contract(month, what));
            }
        }
        add(river.shoresOf());
        add(river.thirsty());
    }

    private static int told(RentRiver river, int town, int what) {
        try {
            return river.told(town, what);
        } catch (NoSuchElementException e) {
            return THROWN;
        }
    }

    private void addYear(RentRiver river) {
        for (int what = 0; what <= 10; what++) {
            add(river.year(what));
        }
        for (int town = 0; town < 8; town++) {
            for (int what = 0; what < 10; what++) {
                add(river.town(town, what));
            }
        }
        for (int month = 0; month < 12; month++) {
            for (int what = 0; what < 3; what++) {
                add(river.let(month, what));
            }
        }
        add(river.droughts());
        for (int k = -1; k < 8; k++) {
            add(river.said(k));
        }
    }

    /** What calls told last: the fault, the plan, prices, leaks, the text. */
    private void addLatest(RentRiver river) {
        add(river.fault());
        for (int month = 0; month < 12; month++) {
            add(river.plan(month));
            add(river.price(month));
        }
        for (int town = 0; town < 8; town++) {
            add(river.has(town));
        }
        for (int k = 0; k <= 40; k++) {
            for (int what = 0; what < 3; what++) {
                add(river.leak(k, what));
            }
        }
        for (int i = 0; i <= 300; i++) {
            add(river.byteAt(i));
        }
    }
}

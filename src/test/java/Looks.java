import java.util.ArrayList;
import java.util.List;

/**
 * All that can be seen of a hall from outside, in some looks, each at a hall of its own: one object may be used for
 * 512 calls alone, and some things (THE TEXT, a ROW, THE IMAGE) show only by calls that change them.
 */
final class Looks {
    static final int MANY = 6;
    /** At most as many calls of count() go by beside what is found. */
    static final int COUNTS = 4;

    private final Object x;
    private final List<String> found = new ArrayList<>();

    private Looks(Object x) {
        this.x = x;
    }

    /** Of a TicketHall or a NaiveHall. */
    static List<String> at(Object x, int which) {
        Looks looks = new Looks(x);
        switch (which) {
            case 0 -> looks.standing();
            case 1 -> looks.going();
            case 2 -> looks.tapes(0);
            case 3 -> looks.tapes(3);
            case 4 -> {
                looks.ask("undo");
                looks.standing();
            }
            default -> {
                looks.ask("undo");
                looks.going();
            }
        }
        return looks.found;
    }

    private long ask(String call) {
        long answer = new Call(call).on(x);
        found.add(call + " = " + answer);
        return answer;
    }

    private int count(int what) {
        return (int) new Call("count " + what).on(x);
    }

    private void askEach(String call, int below, String behind) {
        for (int k = 0; k < below; k++) {
            ask(call + " " + k + behind);
        }
    }

    private void standing() {
        askEach("count", 7, "");
        askEach("told", 4, "");
        ask("order");
        ask("worth 5 0");
        int currencies = count(0);
        int tickets = count(1);
        int clients = count(2);
        for (int c = 0; c < currencies; c++) {
            askEach("needs " + c, 2, "");
            ask("worth 1 " + c);
            ask("worth 2 " + c);
        }
        for (int t = 0; t < tickets; t++) {
            askEach("card " + t, 3, "");
            ask("worth 0 " + t);
        }
        for (int p = 0; p < clients; p++) {
            askEach("of " + p, 9, "");
            ask("worth 3 " + p);
        }
    }

    private void going() {
        int clients = count(2);
        ask("seeds");
        askEach("can", clients, " 3 0");
        askEach("can", clients, " 8 1");
        askEach("ends", 3, "");
        ask("looked");
        askEach("mean", 2, "");
        askEach("odds", clients, " 0");
        ask("on 5 12 0");
        ask("by 12 0");
        ask("by 12 1");
        for (int p = 0; p < clients; p++) {
            ask("on 5 12 " + (10 + p));
            ask("by 12 " + (10 + p));
            ask("by 12 " + (30 + p));
            ask("lag " + p + " 9 0");
            ask("best " + p + " 0");
            askEach("row " + p, 4, " 0");
        }
        ask("fund");
        int tickets = count(1);
        for (int t = 0; t < tickets; t++) {
            askEach("card " + t, 3, "");
        }
    }

    /** Items, how many there are, and by which an item is cut, of what sort. */
    private void tapes(int first) {
        for (int t = first; t < first + 3; t++) {
            long item = 0;
            for (int i = 0; i <= 60 && item != TicketHall.NO; i++) {
                item = ask("read " + t + " " + i);
            }
            ask("item " + t + " 0 " + ((1L << 40) + (1L << 24) + (1 << 8)));
            ask("read " + t + " 0");
        }
    }
}

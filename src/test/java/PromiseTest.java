/** Each promise by hand: ordinary inputs, the edges that the document names, wrong inputs. */
public final class PromiseTest {
    private static final long NO = TicketHall.NO;
    private static final int MIN = Integer.MIN_VALUE;
    private static final int MAX = Integer.MAX_VALUE;

    private final Due due = new Due("PromiseTest");

    /** CLIENTS of kind 0, each with one TICKET in BASE of these AMOUNTS. */
    private static TicketHall hallOf(int... amounts) {
        TicketHall x = new TicketHall();
        for (int p = 0; p < amounts.length; p++) {
            x.client(0, 0);
            x.ticket(0, amounts[p]);
            x.give(p, p);
        }
        return x;
    }

    private static void feedAll(TicketHall x, String text) {
        for (int i = 0; i < text.length(); i++) {
            x.feed(text.charAt(i));
        }
    }

    private static int fund(TicketHall x, String text) {
        feedAll(x, text);
        return x.fund();
    }

    private static int go(TicketHall x, int times) {
        int latest = -5;
        for (int k = 0; k < times; k++) {
            latest = x.stride(40);
        }
        return latest;
    }

    private void newObject() {
        due.promise(1);
        TicketHall x = new TicketHall();
        for (int what = 0; what < 7; what++) {
            due.is("count(" + what + ")", x.count(what), what == 0 ? 1 : 0);
        }
        due.is("told(0)", x.told(0), 0);
        due.is("told(1)", x.told(1), 0);
        due.is("told(2)", x.told(2), -5);
        due.is("told(3)", x.told(3), 0);
        due.is("undo()", x.undo(), -3);
        for (int t = 0; t < 6; t++) {
            due.is("read", x.read(t, 0), NO);
            due.is("item", x.item(t, 0, 1), -11);
        }
        due.is("order()", x.order(), 0);
        due.is("NONE", TicketHall.NONE, -1);
        due.is("BAD", TicketHall.BAD, -2);
        due.is("STATE", TicketHall.STATE, -3);
        due.is("FULL", TicketHall.FULL, -4);
        due.is("NO", TicketHall.NO, Long.MIN_VALUE);
    }

    private void currency() {
        due.promise(2);
        TicketHall x = new TicketHall();
        for (int c = 1; c < 6; c++) {
            due.is("currency()", x.currency(), c);
        }
        due.is("currency()", x.currency(), -4);
        due.is("count(0)", x.count(0), 6);
        due.is("order()", x.order(), 12345);
    }

    private void ticket() {
        due.promise(3);
        TicketHall x = new TicketHall();
        due.is("ticket(1, 0)", x.ticket(1, 0), -1);
        due.is("ticket(-1, 1)", x.ticket(-1, 1), -1);
        due.is("ticket(MIN, 1)", x.ticket(MIN, 1), -1);
        due.is("ticket(0, 0)", x.ticket(0, 0), -2);
        due.is("ticket(0, 10000)", x.ticket(0, 10000), -2);
        due.is("ticket(0, -1)", x.ticket(0, -1), -2);
        x.currency();
        due.is("count(1)", x.count(1), 0);
        for (int t = 0; t < 24; t++) {
            due.is("ticket", x.ticket(t % 2, t == 0 ? 1 : 9999), t);
        }
        due.is("card(0, 1)", x.card(0, 1), 1);
        due.is("card(23, 0)", x.card(23, 0), 1);
        due.is("card(23, 2)", x.card(23, 2), -5);
        due.is("ticket(0, 1)", x.ticket(0, 1), -4);
        due.is("ticket(0, 0)", x.ticket(0, 0), -2);
        due.is("ticket(2, 0)", x.ticket(2, 0), -1);
    }

    private void client() {
        due.promise(4);
        TicketHall x = new TicketHall();
        due.is("client(7, 10)", x.client(7, 10), -1);
        due.is("client(-1, 0)", x.client(-1, 0), -1);
        due.is("client(0, 10)", x.client(0, 10), -2);
        due.is("client(0, -1)", x.client(0, -1), -2);
        for (int p = 0; p < 8; p++) {
            due.is("client", x.client(p % 7, p), p);
            due.is("of(p, 0)", x.of(p, 0), p % 7);
            due.is("of(p, 1)", x.of(p, 1), p);
        }
        due.is("client(6, 9)", x.client(6, 9), -4);
        due.is("client(6, 10)", x.client(6, 10), -2);
        due.is("count(2)", x.count(2), 8);
        // The least PASS of all that are there, though that one is not READY.
        TicketHall y = hallOf(100, 50);
        y.stride(2);
        due.is("of(0, 4)", y.of(0, 4), 1000000);
        due.is("of(1, 4)", y.of(1, 4), 2000000);
        y.client(0, 1);
        due.is("of(2, 4)", y.of(2, 4), 1000000);
        due.is("of(2, 3)", y.of(2, 3), 10);
        due.is("of(2, 2)", y.of(2, 2), 0);
        due.is("of(2, 5)", y.of(2, 5), -5);
    }

    /** The least PASS may be anybody's, and the only one's. */
    private void clientPass() {
        due.promise(4);
        TicketHall x = hallOf(1);
        x.stride(1);
        x.client(0, 0);
        due.is("of(1, 4)", x.of(1, 4), 100000000);
        TicketHall y = hallOf(10, 20, 30);
        y.stride(4);
        due.is("of(0, 4)", y.of(0, 4), 10000000);
        due.is("of(1, 4)", y.of(1, 4), 5000000);
        due.is("of(2, 4)", y.of(2, 4), 6666666);
        y.client(0, 0);
        due.is("of(3, 4)", y.of(3, 4), 5000000);
    }

    private void clientBehindUndo() {
        due.promise(4);
        TicketHall x = hallOf(5);
        x.image();
        x.client(6, 1);
        x.row(1, 2, 9);
        x.waits(1, 0);
        x.ticket(0, 100);
        x.give(1, 1);
        x.waits(1, -1);
        x.stride(9);
        x.waits(1, 0);
        x.undo();
        due.is("client(6, 4)", x.client(6, 4), 1);
        due.is("of(1, 1)", x.of(1, 1), 4);
        due.is("of(1, 2)", x.of(1, 2), 0);
        due.is("of(1, 3)", x.of(1, 3), 10);
        due.is("of(1, 4)", x.of(1, 4), 0);
        due.is("of(1, 5)", x.of(1, 5), -5);
        due.is("row(1, 2, 0)", x.row(1, 2, 0), 0);
    }

    private void amount() {
        due.promise(5);
        TicketHall x = hallOf(30);
        due.is("amount(0, 9999)", x.amount(0, 9999), 30);
        due.is("amount(0, 1)", x.amount(0, 1), 9999);
        due.is("amount(0, 10000)", x.amount(0, 10000), -2);
        due.is("amount(0, 0)", x.amount(0, 0), -2);
        due.is("amount(1, 0)", x.amount(1, 0), -1);
        due.is("amount(-1, 1)", x.amount(-1, 1), -1);
        due.is("amount(MAX, 1)", x.amount(MAX, 1), -1);
        due.is("card(0, 1)", x.card(0, 1), 1);
        due.is("worth(3, 0)", x.worth(3, 0), 1);
    }

    private void give() {
        due.promise(6);
        TicketHall x = hallOf(30, 40);
        x.currency();
        due.is("give(0, 1)", x.give(0, 1), 0);
        due.is("worth(3, 1)", x.worth(3, 1), 70);
        due.is("give(0, -1)", x.give(0, -1), 1);
        due.is("card(0, 2)", x.card(0, 2), -5);
        due.is("give(0, -1)", x.give(0, -1), -5);
        due.is("back(0, 1)", x.back(0, 1), -5);
        due.is("give(0, 0)", x.give(0, 0), 11);
        due.is("give(0, 0)", x.give(0, 0), 0);
        due.is("give(2, 0)", x.give(2, 0), -1);
        due.is("give(-1, 0)", x.give(-1, 0), -1);
        due.is("give(0, 2)", x.give(0, 2), -1);
        due.is("give(0, -2)", x.give(0, -2), -1);
        due.is("give(0, MIN)", x.give(0, MIN), -1);
        due.is("card(0, 2)", x.card(0, 2), 0);
    }

    private void back() {
        due.promise(7);
        TicketHall x = hallOf(30);
        x.currency();
        x.currency();
        x.currency();
        x.ticket(1, 5);
        x.ticket(2, 5);
        x.ticket(3, 5);
        due.is("back(0, 0)", x.back(0, 0), -3);
        due.is("back(1, 1)", x.back(1, 1), -3);
        due.is("back(0, 1)", x.back(0, 1), 0);
        due.is("back(0, 1)", x.back(0, 1), 11);
        due.is("back(1, 2)", x.back(1, 2), -5);
        due.is("back(2, 3)", x.back(2, 3), -5);
        due.is("back(3, 1)", x.back(3, 1), -3);
        due.is("back(3, 2)", x.back(3, 2), -3);
        due.is("back(3, 3)", x.back(3, 3), -3);
        due.is("card(3, 2)", x.card(3, 2), -5);
        // What the TICKET did does not count: 2 on 1 goes, 3 on 1 comes.
        due.is("back(1, 3)", x.back(1, 3), 12);
        due.is("back(3, 2)", x.back(3, 2), -3);
        due.is("give(2, -1)", x.give(2, -1), 13);
        due.is("back(3, 2)", x.back(3, 2), -5);
        due.is("back(4, 1)", x.back(4, 1), -1);
        due.is("back(0, 4)", x.back(0, 4), -1);
        due.is("back(0, -1)", x.back(0, -1), -1);
        due.is("back(9, 0)", x.back(9, 0), -1);
        due.is("back(MIN, 1)", x.back(MIN, 1), -1);
    }

    private void waits() {
        due.promise(8);
        TicketHall x = hallOf(10, 20, 40);
        due.is("waits(0, 0)", x.waits(0, 0), -3);
        due.is("waits(0, 1)", x.waits(0, 1), -5);
        due.is("waits(1, 0)", x.waits(1, 0), -3);
        due.is("waits(1, 2)", x.waits(1, 2), -5);
        due.is("waits(2, 0)", x.waits(2, 0), -3);
        due.is("waits(2, 1)", x.waits(2, 1), -3);
        due.is("worth(3, 2)", x.worth(3, 2), 70);
        due.is("worth(3, 1)", x.worth(3, 1), 30);
        due.is("waits(0, 2)", x.waits(0, 2), 1);
        due.is("worth(3, 1)", x.worth(3, 1), 20);
        due.is("waits(0, -1)", x.waits(0, -1), 2);
        due.is("waits(0, -1)", x.waits(0, -1), -5);
        due.is("waits(3, 0)", x.waits(3, 0), -1);
        due.is("waits(0, 3)", x.waits(0, 3), -1);
        due.is("waits(0, -2)", x.waits(0, -2), -1);
        due.is("waits(-1, -1)", x.waits(-1, -1), -1);
        due.is("of(1, 5)", x.of(1, 5), 2);
    }

    /** All eight in one chain: all that they have is the last one's. */
    private void waitsAll() {
        due.promise(8);
        TicketHall x = hallOf(1, 2, 4, 8, 16, 32, 64, 128);
        for (int p = 0; p < 7; p++) {
            due.is("waits(p, p + 1)", x.waits(p, p + 1), -5);
        }
        due.is("waits(7, 0)", x.waits(7, 0), -3);
        due.is("worth(3, 7)", x.worth(3, 7), 255);
        due.is("told(3)", x.told(3), 128);
        due.is("stride(40)", x.stride(40), 7);
        due.is("draw(1, 40)", x.draw(1, 40), 7);
        due.is("mean(0)", x.mean(0), 100);
        due.is("mean(1)", x.mean(1), 1);
        x.give(7, 0);
        x.waits(6, -1);
        due.is("stride(12)", x.stride(12), 6);
        due.is("told(1)", x.told(1), 0);
    }

    /** PASSES of eight are lowered, and draws among eight find the last. */
    private void allEight() {
        due.promise(18);
        TicketHall x = hallOf(1, 1, 1, 1, 1, 1, 1, 1);
        for (int k = 0; k < 4; k++) {
            x.stride(40);
        }
        x.stride(8);
        due.is("told(1)", x.told(1), 0);
        due.is("of(7, 4)", x.of(7, 4), 2100000000);
        due.is("stride(1)", x.stride(1), 0);
        due.is("told(1)", x.told(1), 1);
        due.is("of(0, 4)", x.of(0, 4), 100000000);
        due.is("of(7, 4)", x.of(7, 4), 0);
        int whose = 0;
        for (int seed = 0; seed < 100; seed++) {
            whose |= 1 << x.on(seed, 1, 0);
        }
        due.is("whose", whose, 255);
    }

    private void row() {
        due.promise(9);
        TicketHall x = new TicketHall();
        x.client(6, 0);
        x.client(3, 0);
        due.is("row(0, 0, 9)", x.row(0, 0, 9), 0);
        due.is("row(0, 0, 3)", x.row(0, 0, 3), 9);
        due.is("row(0, 3, 1)", x.row(0, 3, 1), 0);
        due.is("row(0, 4, 1)", x.row(0, 4, 1), -1);
        due.is("row(0, -1, 10)", x.row(0, -1, 10), -1);
        due.is("row(2, 0, 1)", x.row(2, 0, 1), -1);
        due.is("row(-1, 0, 1)", x.row(-1, 0, 1), -1);
        due.is("row(0, 0, 10)", x.row(0, 0, 10), -2);
        due.is("row(1, 0, -1)", x.row(1, 0, -1), -2);
        due.is("row(1, 0, 1)", x.row(1, 0, 1), -3);
        due.is("of(0, 7)", x.of(0, 7), 7);
        due.is("row(0, 0, 3)", x.row(0, 0, 3), 3);
    }

    private void of() {
        due.promise(10);
        TicketHall x = hallOf(7, 3);
        due.is("of(0, 8)", x.of(0, 8), 14285714);
        due.is("of(1, 6)", x.of(1, 6), 1);
        x.waits(1, 0);
        due.is("of(1, 5)", x.of(1, 5), 0);
        due.is("of(1, 6)", x.of(1, 6), 0);
        due.is("of(1, 8)", x.of(1, 8), 33333333);
        due.is("of(0, 8)", x.of(0, 8), 10000000);
        x.stride(3);
        due.is("of(0, 2)", x.of(0, 2), 30);
        due.is("of(0, 4)", x.of(0, 4), 30000000);
        x.give(0, -1);
        x.give(1, -1);
        due.is("of(0, 8)", x.of(0, 8), -5);
        due.is("of(0, 6)", x.of(0, 6), 0);
        due.is("of(0, 9)", x.of(0, 9), -1);
        due.is("of(0, -1)", x.of(0, -1), -1);
        due.is("of(2, 0)", x.of(2, 0), -1);
        due.is("of(-1, 0)", x.of(-1, 0), -1);
        due.is("of(MIN, 6)", x.of(MIN, 6), -1);
    }

    /** PARTS of all KINDS with v = 9, v = 0, at CLOCK 0 and 10. */
    private void parts() {
        due.promise(10);
        int[] nine = {10, 10, 10, 10, 5, 1, 10};
        int[] zero = {10, 1, 10, 10, 1, 10, 10};
        int[] later = {10, 1, 10, 5, 1, 10, 5};
        for (int kind = 0; kind < 7; kind++) {
            TicketHall x = new TicketHall();
            x.client(kind, 9);
            x.client(kind, 0);
            due.is("of(0, 7)", x.of(0, 7), nine[kind]);
            due.is("of(1, 7)", x.of(1, 7), zero[kind]);
            x.draw(0, 1);
            due.is("of(1, 7)", x.of(1, 7), later[kind]);
            x.draw(0, 1);
            due.is("of(1, 7)", x.of(1, 7), zero[kind]);
        }
        TicketHall x = new TicketHall();
        x.client(6, 0);
        x.row(0, 0, 1);
        x.row(0, 2, 8);
        due.is("of(0, 7)", x.of(0, 7), 9);
        x.draw(0, 1);
        due.is("of(0, 7) at 10", x.of(0, 7), 1);
        x.row(0, 2, 4);
        due.is("of(0, 7) at 10", x.of(0, 7), 1);
        x.row(0, 2, 3);
        due.is("of(0, 7) at 10", x.of(0, 7), 2);
        x.draw(0, 1);
        due.is("of(0, 7) at 20", x.of(0, 7), 9);
    }

    /** A ROW is each TOLD one's own; CLOCK by 10 is odd or even far beyond the first ones, too. */
    private void partsLater() {
        due.promise(10);
        TicketHall x = new TicketHall();
        for (int p = 0; p < 8; p++) {
            x.client(6, 0);
            for (int part = 0; part < 4; part++) {
                due.is("row", x.row(p, part, 1), 0);
            }
            x.row(p, 0, p);
        }
        for (int clock = 0; clock < 120; clock += 20) {
            for (int p = 0; p < 8; p++) {
                due.is("of(p, 7)", x.of(p, 7), clock % 4 == 0 ? 10 - p : 9);
            }
            x.draw(0, 1);
            due.is("of(0, 7)", x.of(0, 7), clock % 4 == 2 ? 5 : 4);
            x.draw(0, 1);
        }
        for (int v = 0; v < 10; v++) {
            TicketHall y = new TicketHall();
            y.client(4, v);
            y.client(5, v);
            y.client(1, v);
            due.is("SHY", y.of(0, 7), v == 0 ? 1 : (v + 1) / 2);
            due.is("DAEMON", y.of(1, 7), 10 - v);
            due.is("YIELDER", y.of(2, 7), v + 1);
        }
    }

    /** USED makes WEIGHT ten times SHARE by it; a SERVER is READY only while another waits for it. */
    private void ready() {
        due.promise(10);
        TicketHall x = new TicketHall();
        x.client(2, 0);
        x.client(5, 7);
        x.client(0, 0);
        x.ticket(0, 10);
        x.ticket(0, 10);
        x.give(0, 0);
        x.give(1, 1);
        due.is("of(0, 6)", x.of(0, 6), 0);
        due.is("of(1, 6)", x.of(1, 6), 0);
        x.waits(2, 1);
        due.is("of(0, 6)", x.of(0, 6), 0);
        due.is("of(1, 6)", x.of(1, 6), 1);
        due.is("stride(1)", x.stride(1), 1);
        due.is("of(1, 3)", x.of(1, 3), 3);
        due.is("worth(4, 1)", x.worth(4, 1), 33);
        due.is("of(1, 8)", x.of(1, 8), 3030303);
        x.waits(0, 2);
        due.is("worth(3, 1)", x.worth(3, 1), 20);
        due.is("of(2, 6)", x.of(2, 6), 0);
        x.waits(2, -1);
        due.is("of(2, 6)", x.of(2, 6), 1);
        due.is("of(1, 6)", x.of(1, 6), 0);
    }

    private void card() {
        due.promise(11);
        TicketHall x = hallOf(30);
        x.currency();
        x.ticket(1, 44);
        due.is("card(1, 0)", x.card(1, 0), 1);
        due.is("card(1, 1)", x.card(1, 1), 44);
        due.is("card(1, 2)", x.card(1, 2), -5);
        due.is("card(0, 2)", x.card(0, 2), 0);
        x.back(0, 1);
        due.is("card(0, 2)", x.card(0, 2), 11);
        due.is("card(0, 3)", x.card(0, 3), -1);
        due.is("card(0, -1)", x.card(0, -1), -1);
        due.is("card(2, 0)", x.card(2, 0), -1);
        due.is("card(-1, 0)", x.card(-1, 0), -1);
    }

    private void worth() {
        due.promise(12);
        TicketHall x = new TicketHall();
        x.client(0, 0);
        x.currency();
        x.currency();
        x.ticket(0, 100);
        x.ticket(1, 3);
        x.ticket(1, 4);
        x.ticket(2, 7);
        due.is("worth(0, 0)", x.worth(0, 0), 100);
        due.is("worth(0, 1)", x.worth(0, 1), 0);
        x.back(0, 1);
        due.is("worth(2, 1)", x.worth(2, 1), 0);
        due.is("worth(0, 1)", x.worth(0, 1), 0);
        x.give(1, 0);
        due.is("worth(2, 1)", x.worth(2, 1), 3);
        due.is("worth(0, 1)", x.worth(0, 1), 100);
        // What nobody has is worth by what is ISSUED, though it is not in that.
        due.is("worth(0, 2)", x.worth(0, 2), 133);
        x.back(2, 2);
        due.is("worth(0, 1)", x.worth(0, 1), 42);
        due.is("worth(0, 2)", x.worth(0, 2), 57);
        due.is("worth(1, 2)", x.worth(1, 2), 57);
        due.is("worth(1, 1)", x.worth(1, 1), 100);
        due.is("worth(2, 0)", x.worth(2, 0), 100);
        due.is("worth(1, 0)", x.worth(1, 0), 0);
        due.is("worth(3, 0)", x.worth(3, 0), 42);
        due.is("worth(4, 0)", x.worth(4, 0), 42);
        due.is("worth(5, MIN)", x.worth(5, MIN), 42);
        due.is("worth(0, 4)", x.worth(0, 4), NO);
        due.is("worth(1, 3)", x.worth(1, 3), NO);
        due.is("worth(2, -1)", x.worth(2, -1), NO);
        due.is("worth(3, 1)", x.worth(3, 1), NO);
        due.is("worth(4, -1)", x.worth(4, -1), NO);
        due.is("worth(6, 0)", x.worth(6, 0), NO);
        due.is("worth(-1, 0)", x.worth(-1, 0), NO);
    }

    /** A WORTH beyond an int, of a TICKET that nobody has. */
    private void greatWorth() {
        due.promise(12);
        TicketHall x = new TicketHall();
        x.client(0, 0);
        x.currency();
        for (int t = 0; t < 22; t++) {
            x.ticket(0, 9999);
            x.back(t, 1);
        }
        x.ticket(1, 1);
        x.give(22, 0);
        x.ticket(1, 9999);
        due.is("worth(1, 1)", x.worth(1, 1), 219978);
        due.is("worth(0, 23)", x.worth(0, 23), 219978L * 9999);
        due.is("worth(4, 0)", x.worth(4, 0), 219978);
        due.is("of(0, 8)", x.of(0, 8), 454);
    }

    private void needs() {
        due.promise(13);
        TicketHall x = hallOf(1, 1, 1);
        x.currency();
        x.currency();
        x.currency();
        x.ticket(1, 5);
        x.ticket(2, 5);
        x.ticket(3, 5);
        x.give(5, 2);
        x.back(0, 1);
        x.back(3, 2);
        x.back(4, 3);
        due.is("needs(3, 0)", x.needs(3, 0), 7);
        due.is("needs(2, 0)", x.needs(2, 0), 3);
        due.is("needs(1, 0)", x.needs(1, 0), 1);
        due.is("needs(0, 0)", x.needs(0, 0), 0);
        due.is("needs(0, 1)", x.needs(0, 1), 6);
        due.is("needs(1, 1)", x.needs(1, 1), 4);
        due.is("needs(3, 1)", x.needs(3, 1), 4);
        x.give(0, 0);
        due.is("needs(0, 1)", x.needs(0, 1), 7);
        x.back(0, 1);
        x.give(4, -1);
        due.is("needs(1, 1)", x.needs(1, 1), 0);
        due.is("needs(3, 1)", x.needs(3, 1), 4);
        due.is("needs(3, 0)", x.needs(3, 0), 0);
        x.back(4, 3);
        x.back(3, 3);
        due.is("needs(1, 1)", x.needs(1, 1), 4);
        x.give(3, -1);
        due.is("needs(1, 1)", x.needs(1, 1), 0);
        due.is("needs(2, 1)", x.needs(2, 1), 4);
        due.is("needs(4, 0)", x.needs(4, 0), -1);
        due.is("needs(-1, 1)", x.needs(-1, 1), -1);
        due.is("needs(0, 2)", x.needs(0, 2), -1);
        due.is("needs(0, -1)", x.needs(0, -1), -1);
    }

    private void order() {
        due.promise(14);
        TicketHall x = new TicketHall();
        for (int c = 1; c < 6; c++) {
            x.currency();
        }
        due.is("order()", x.order(), 12345);
        x.ticket(5, 1);
        x.ticket(3, 1);
        x.back(0, 1);
        due.is("order()", x.order(), 23451);
        x.back(1, 2);
        due.is("order()", x.order(), 32451);
        x.ticket(1, 1);
        x.back(2, 4);
        due.is("order()", x.order(), 32514);
        x.give(0, -1);
        due.is("order()", x.order(), 13245);
    }

    private void feed() {
        due.promise(15);
        TicketHall x = new TicketHall();
        due.is("feed(-1)", x.feed(-1), -2);
        due.is("feed(128)", x.feed(128), -2);
        due.is("feed(0)", x.feed(0), 1);
        due.is("feed(127)", x.feed(127), 2);
        for (int k = 3; k <= 100; k++) {
            due.is("feed(65)", x.feed(65), k);
        }
        due.is("feed(65)", x.feed(65), -4);
        due.is("feed(128)", x.feed(128), -2);
        due.is("count(6)", x.count(6), 100);
        due.is("fund()", x.fund(), -10);
        due.is("feed(65)", x.feed(65), 1);
    }

    private void fundFaults() {
        due.promise(16);
        String[] texts = {"", "x", "p", "px", "p0", "p0=", "p0<", "p0<c", "p0<1", "p0<1x", "p0<12345c0", "p0<1c",
            "p0<1cc", "p0<1c0 ", "p0<1c0;", "p0<1c0+", "p0<1c0;+", "p0<1c0+;", "p0<1c00", " p0<1c0", "P0<1c0",
            "p0<1c0;c9<0c9", "p0<-1c0", "p0<1234c0+12345c0", "p0<1:c0", "p/<1c0"};
        int[] faults = {0, 0, 1, 1, 2, 2, 3, 3, 4, 4, 7, 5, 5, 6, 7, 7, 7, 7, 6, 0, 0, -1, 3, 14, 4, 1};
        for (int k = 0; k < texts.length; k++) {
            TicketHall x = hallOf(1);
            due.is("fund of " + texts[k], fund(x, texts[k]), faults[k] < 0 ? 1 : -10 - faults[k]);
            due.is("count(6)", x.count(6), 0);
            due.is("count(1)", x.count(1), faults[k] < 0 ? 2 : 1);
        }
        TicketHall x = hallOf(1);
        String eight = "p0<1c0;p0<1c0;p0<1c0;p0<1c0;p0<1c0;p0<1c0;p0<1c0;p0<1c0";
        due.is("fund of eight", fund(x, eight), 8);
        due.is("fund of nine", fund(x, eight + ";p0<1c0"), -10 - 55);
        due.is("fund of eight and +", fund(x, eight + "+2c0"), 9);
        due.is("count(1)", x.count(1), 18);
    }

    private void fund() {
        due.promise(16);
        TicketHall x = hallOf(1, 1);
        x.currency();
        x.currency();
        due.is("fund", fund(x, "p0<10c0+007c1;c1<20c0;p1<9999c2+0c0;c2<3c1;c1<4c2"), 5);
        due.is("count(1)", x.count(1), 7);
        int[][] cards = {{0, 10, 0}, {1, 7, 0}, {0, 20, 11}, {2, 9999, 1}, {1, 3, 12}};
        for (int k = 0; k < 5; k++) {
            for (int what = 0; what < 3; what++) {
                due.is("card", x.card(k + 2, what), cards[k][what]);
            }
        }
        due.is("fund", fund(x, "c0<1c0;c1<1c1;c3<1c0;p2<1c0;p9<1c0;p0<1c3;c9<1c9;p1<0000c0"), 0);
        due.is("count(1)", x.count(1), 7);
        // At 100 bytes; 17 TICKETS are left till they are 24, whatever more are asked for.
        String many = "p1<1c0" + "+1c0".repeat(23);
        feedAll(x, many + "+1");
        due.is("count(6)", x.count(6), 100);
        due.is("fund ends too early", x.fund(), -110);
        due.is("fund", fund(x, many), 17);
        due.is("count(1)", x.count(1), 24);
        due.is("fund", fund(x, "p0<1c0"), 0);
        due.is("fund", fund(x, "q0<1c0"), -10);
        TicketHall y = hallOf(1);
        String whole = "p0<10c0+10c0" + "+1c0".repeat(22);
        feedAll(y, whole);
        due.is("count(6)", y.count(6), 100);
        due.is("fund of 100", y.fund(), 23);
    }

    private void draw() {
        due.promise(17);
        TicketHall x = hallOf(2, 3);
        // The number behind the SEED 3: 3 * 1103515245 + 12345 wraps to -984409216, whose half above is 1655279040.
        int z = 3 * 1103515245 + 12345;
        int number = (z >>> 1) % 5;
        due.is("number", number, 0);
        due.is("draw(3, 1)", x.draw(3, 1), 0);
        due.is("of(0, 2)", x.of(0, 2), 10);
        due.is("told(0)", x.told(0), 10);
        due.is("draw(3, 0)", x.draw(3, 0), -5);
        due.is("draw(3, 41)", x.draw(3, 41), -2);
        due.is("draw(3, -1)", x.draw(3, -1), -2);
        due.is("draw(3, MIN)", x.draw(3, MIN), -2);
        int[] ran = new int[2];
        int last = 12345678;
        int latest = -5;
        for (int k = 0; k < 40; k++) {
            last = last * 1103515245 + 12345;
            latest = (last >>> 1) % 5 < 2 ? 0 : 1;
            ran[latest] += 10;
        }
        due.is("draw(12345678, 40)", x.draw(12345678, 40), latest);
        due.is("of(0, 2)", x.of(0, 2), 10 + ran[0]);
        due.is("of(1, 2)", x.of(1, 2), ran[1]);
        due.is("of(0, 4)", x.of(0, 4), 0);
        TicketHall none = new TicketHall();
        none.client(0, 0);
        due.is("draw(1, 3)", none.draw(1, 3), -5);
        due.is("told(0)", none.told(0), 30);
    }

    /** WEIGHT grows by what one gave back: a YIELDER that used 1 counts tenfold. */
    private void drawYielder() {
        due.promise(17);
        TicketHall x = new TicketHall();
        x.client(1, 0);
        x.ticket(0, 3);
        x.give(0, 0);
        due.is("draw(7, 1)", x.draw(7, 1), 0);
        due.is("told(0)", x.told(0), 1);
        due.is("worth(4, 0)", x.worth(4, 0), 30);
        x.client(0, 0);
        x.ticket(0, 30);
        x.give(1, 1);
        int z = 99 * 1103515245 + 12345;
        due.is("draw(99, 1)", x.draw(99, 1), (z >>> 1) % 60 < 30 ? 0 : 1);
    }

    private void drawOfOne() {
        due.promise(17);
        TicketHall x = hallOf(1);
        due.is("draw(8, 1)", x.draw(8, 1), 0);
        due.is("of(0, 2)", x.of(0, 2), 10);
    }

    /** CLOCK and 10 times n may be 99999. */
    private void limitItself(int promise) {
        due.promise(promise);
        TicketHall x = new TicketHall();
        x.client(1, 8);
        x.ticket(0, 1);
        x.give(0, 0);
        x.stride(1);
        x.give(0, -1);
        due.is("told(0)", x.told(0), 9);
        go(x, 249);
        x.stride(38);
        due.is("told(0)", x.told(0), 99989);
        due.is("draw(0, 2)", x.draw(0, 2), -3);
        due.is("stride(2)", x.stride(2), -3);
        due.is("on one", promise == 17 ? x.draw(0, 1) : x.stride(1), -5);
        due.is("told(0)", x.told(0), 99999);
    }

    private void limit(int promise) {
        due.promise(promise);
        TicketHall x = hallOf(5);
        go(x, 249);
        due.is("told(0)", x.told(0), 99600);
        due.is("draw(1, 40)", x.draw(1, 40), -3);
        due.is("stride(40)", x.stride(40), -3);
        due.is("draw(1, 41)", x.draw(1, 41), -2);
        due.is("stride(41)", x.stride(41), -2);
        due.is("draw(1, 39)", x.draw(1, 39), 0);
        due.is("told(0)", x.told(0), 99990);
        due.is("draw(1, 1)", x.draw(1, 1), -3);
        due.is("stride(1)", x.stride(1), -3);
        due.is("stride(0)", x.stride(0), -5);
        due.is("draw(1, 0)", x.draw(1, 0), -5);
        // Asked, CLOCK goes on beyond that.
        x.plan(0, 0);
        due.is("ends(0)", x.ends(0), 100000);
        due.is("by(40, 10)", x.by(40, 10), 99990 + 400);
        due.is("on(1, 40, 10)", x.on(1, 40, 10), 99990 + 400);
        due.is("told(0)", x.told(0), 99990);
    }

    private void stride() {
        due.promise(18);
        TicketHall x = hallOf(100, 50);
        int[] turns = {0, 1, 0, 0, 1, 0};
        for (int k = 0; k < turns.length; k++) {
            due.is("stride(1)", x.stride(1), turns[k]);
        }
        due.is("of(0, 4)", x.of(0, 4), 4000000);
        due.is("of(1, 4)", x.of(1, 4), 4000000);
        due.is("stride(0)", x.stride(0), -5);
        due.is("stride(41)", x.stride(41), -2);
        due.is("stride(-1)", x.stride(-1), -2);
        due.is("told(0)", x.told(0), 60);
        // STRIDE as it is ahead: by USED 10 yet, though the QUANTUM makes it 1.
        TicketHall y = new TicketHall();
        y.client(1, 0);
        y.ticket(0, 1);
        y.give(0, 0);
        due.is("stride(1)", y.stride(1), 0);
        due.is("of(0, 4)", y.of(0, 4), 100000000);
        due.is("of(0, 8)", y.of(0, 8), 10000000);
        due.is("stride(1)", y.stride(1), 0);
        due.is("of(0, 4)", y.of(0, 4), 110000000);
        TicketHall none = new TicketHall();
        due.is("stride(40)", none.stride(40), -5);
        due.is("told(0)", none.told(0), 400);
    }

    private void lowered() {
        due.promise(18);
        TicketHall x = hallOf(1, 9999);
        x.client(0, 0);
        x.give(1, -1);
        due.is("stride(21)", x.stride(21), 0);
        due.is("of(0, 4)", x.of(0, 4), 2100000000);
        due.is("told(1)", x.told(1), 0);
        x.give(1, 1);
        x.waits(0, 1);
        x.stride(3);
        x.waits(0, -1);
        x.give(1, -1);
        due.is("of(1, 4)", x.of(1, 4), 30000);
        due.is("stride(1)", x.stride(1), 0);
        due.is("told(1)", x.told(1), 1);
        due.is("of(0, 4)", x.of(0, 4), 100000000);
        due.is("of(1, 4)", x.of(1, 4), 0);
        due.is("of(2, 4)", x.of(2, 4), 0);
        // A PASS that is greater than the one that is lowered keeps what it has more.
        TicketHall y = hallOf(1, 3);
        y.waits(0, 1);
        y.give(0, -1);
        y.stride(40);
        y.stride(24);
        due.is("of(1, 4)", y.of(1, 4), 2133333312);
        y.waits(0, -1);
        y.give(0, 0);
        y.waits(1, 0);
        y.give(1, -1);
        y.stride(21);
        y.amount(0, 2);
        y.stride(1);
        due.is("of(0, 4)", y.of(0, 4), 50000000);
        due.is("told(1)", y.told(1), 1);
        due.is("of(1, 4)", y.of(1, 4), 2133333312 - 2100000000);
    }

    /** A PASS may be 2147483647 itself. */
    private void loweredBeyond() {
        due.promise(18);
        TicketHall x = hallOf(1);
        x.stride(21);
        int[] amounts = {3, 8, 61, 9999};
        for (int amount : amounts) {
            x.amount(0, amount);
            x.stride(1);
        }
        for (int t = 1; t <= 10; t++) {
            x.ticket(0, 9999);
            x.give(t, 0);
        }
        x.amount(0, 3209);
        due.is("of(0, 8)", x.of(0, 8), 969);
        x.client(0, 0);
        due.is("stride(1)", x.stride(1), 0);
        due.is("of(0, 4)", x.of(0, 4), MAX);
        due.is("told(1)", x.told(1), 0);
        due.is("by(1, 30)", x.by(1, 30), 969);
        due.is("stride(1)", x.stride(1), 0);
        due.is("of(0, 4)", x.of(0, 4), 969);
        due.is("of(1, 4)", x.of(1, 4), 0);
        due.is("told(1)", x.told(1), 1);
    }

    private void told() {
        due.promise(19);
        TicketHall x = hallOf(100, 50, 10);
        due.is("told(3)", x.told(3), 7);
        due.is("told(2)", x.told(2), 0);
        x.stride(1);
        due.is("told(0)", x.told(0), 10);
        due.is("told(2)", x.told(2), 1);
        x.waits(1, 0);
        due.is("told(2)", x.told(2), 2);
        due.is("told(3)", x.told(3), 5);
        due.is("told(4)", x.told(4), -1);
        due.is("told(-1)", x.told(-1), -1);
        due.is("told(1)", x.told(1), 0);
    }

    private void on() {
        due.promise(20);
        TicketHall x = hallOf(2, 3);
        TicketHall y = hallOf(2, 3);
        int latest = y.draw(77, 40);
        due.is("on(77, 40, 0)", x.on(77, 40, 0), latest);
        due.is("on(77, 40, 10)", x.on(77, 40, 10), y.of(0, 2));
        due.is("on(77, 40, 11)", x.on(77, 40, 11), y.of(1, 2));
        due.is("told(0)", x.told(0), 0);
        due.is("of(0, 2)", x.of(0, 2), 0);
        due.is("on(77, 0, 0)", x.on(77, 0, 0), -5);
        due.is("on(77, 0, 11)", x.on(77, 0, 11), 0);
        due.is("on(77, 41, 0)", x.on(77, 41, 0), -2);
        due.is("on(77, -1, 11)", x.on(77, -1, 11), -2);
        due.is("on(77, 41, 12)", x.on(77, 41, 12), -1);
        due.is("on(77, 1, 1)", x.on(77, 1, 1), -1);
        due.is("on(77, 1, 9)", x.on(77, 1, 9), -1);
        due.is("on(77, 1, -1)", x.on(77, 1, -1), -1);
        due.is("on(77, 1, MIN)", x.on(77, 1, MIN), -1);
        due.is("on(77, 1, 30)", x.on(77, 1, 30), -1);
    }

    private void by() {
        due.promise(21);
        TicketHall x = hallOf(100, 50);
        due.is("by(3, 0)", x.by(3, 0), 0);
        due.is("by(3, 1)", x.by(3, 1), 0);
        due.is("by(4, 1)", x.by(4, 1), 1);
        due.is("by(4, 10)", x.by(4, 10), 30);
        due.is("by(4, 11)", x.by(4, 11), 10);
        due.is("by(4, 30)", x.by(4, 30), 3000000);
        due.is("by(4, 31)", x.by(4, 31), 2000000);
        due.is("by(0, 0)", x.by(0, 0), -5);
        due.is("by(0, 1)", x.by(0, 1), 0);
        due.is("told(0)", x.told(0), 0);
        due.is("by(41, 0)", x.by(41, 0), -2);
        due.is("by(-1, 31)", x.by(-1, 31), -2);
        due.is("by(41, 12)", x.by(41, 12), -1);
        due.is("by(1, 2)", x.by(1, 2), -1);
        due.is("by(1, 32)", x.by(1, 32), -1);
        due.is("by(1, 29)", x.by(1, 29), -1);
        due.is("by(1, -1)", x.by(1, -1), -1);
        due.is("by(1, MIN)", x.by(1, MIN), -1);
    }

    private void lag() {
        due.promise(22);
        TicketHall x = hallOf(100, 50);
        // Of 10 PARTS client 0 gets 10, 2 thirds of them are its own.
        due.is("lag(0, 1, 0)", x.lag(0, 1, 0), 10);
        due.is("lag(0, 1, 1)", x.lag(0, 1, 1), 3);
        due.is("lag(1, 1, 0)", x.lag(1, 1, 0), -10);
        due.is("lag(1, 1, 1)", x.lag(1, 1, 1), 3);
        due.is("lag(1, 3, 0)", x.lag(1, 3, 0), 0);
        due.is("lag(1, 3, 1)", x.lag(1, 3, 1), 1);
        due.is("lag(1, 0, 0)", x.lag(1, 0, 0), 0);
        due.is("lag(1, 0, 1)", x.lag(1, 0, 1), 1);
        // Who waits has WEIGHT yet, and gets nothing.
        x.waits(1, 0);
        due.is("lag(1, 1, 0)", x.lag(1, 1, 0), -10);
        due.is("lag(1, 1, 1)", x.lag(1, 1, 1), 3);
        due.is("lag(0, 1, 0)", x.lag(0, 1, 0), 0);
        // RAN ahead does not count.
        x.waits(1, -1);
        x.stride(1);
        due.is("lag(0, 1, 0)", x.lag(0, 1, 0), -20);
        due.is("lag(0, 1, 1)", x.lag(0, 1, 1), 3);
        due.is("lag(2, 1, 0)", x.lag(2, 1, 0), NO);
        due.is("lag(-1, 1, 0)", x.lag(-1, 1, 0), NO);
        due.is("lag(0, 41, 0)", x.lag(0, 41, 0), NO);
        due.is("lag(0, -1, 0)", x.lag(0, -1, 0), NO);
        due.is("lag(0, 1, 2)", x.lag(0, 1, 2), NO);
        due.is("lag(0, 1, -1)", x.lag(0, 1, -1), NO);
        x.waits(0, 1);
        x.give(0, -1);
        x.give(1, -1);
        due.is("lag(0, 1, 0)", x.lag(0, 1, 0), NO);
    }

    private void lagOfOne() {
        due.promise(22);
        TicketHall x = hallOf(1);
        due.is("lag(0, 9, 0)", x.lag(0, 9, 0), 0);
        due.is("lag(0, 9, 1)", x.lag(0, 9, 1), 1);
    }

    /** WEIGHT and TOTAL are as they are now, though USED is another behind the first QUANTUM. */
    private void lagYielder() {
        due.promise(22);
        TicketHall x = new TicketHall();
        x.client(1, 0);
        x.client(0, 0);
        x.ticket(0, 10);
        x.ticket(0, 10);
        x.give(0, 0);
        x.give(1, 1);
        due.is("lag(0, 2, 0)", x.lag(0, 2, 0), -9);
        due.is("lag(0, 2, 1)", x.lag(0, 2, 1), 2);
        due.is("lag(1, 2, 0)", x.lag(1, 2, 0), 9);
        due.is("lag(1, 2, 1)", x.lag(1, 2, 1), 2);
    }

    private void best() {
        due.promise(23);
        TicketHall x = new TicketHall();
        x.client(0, 0);
        x.client(0, 0);
        due.is("best(0, 0)", x.best(0, 0), -5);
        x.currency();
        x.ticket(0, 30);
        x.ticket(1, 10);
        x.ticket(1, 20);
        x.ticket(0, 5);
        due.is("best(0, 0)", x.best(0, 0), 0);
        x.back(0, 1);
        x.give(1, 0);
        x.give(2, 1);
        x.give(3, 0);
        // WEIGHT of 0 is 10 + 5: 5 without the first or the second TICKET, 35 without the third, 10 without the last.
        due.is("best(0, 0)", x.best(0, 0), 0);
        due.is("best(1, 0)", x.best(1, 0), 0);
        x.amount(3, 50);
        due.is("best(0, 0)", x.best(0, 0), 3);
        x.amount(3, 5);
        // By 14 the second TICKET is worth 12 of 30 (cut), the third 17: 12 and 5 are as many.
        due.is("best(0, 11)", x.best(0, 11), 14);
        due.is("best(0, 12)", x.best(0, 12), 1);
        due.is("best(1, 12)", x.best(1, 12), 14);
        due.is("best(1, 13)", x.best(1, 13), 1);
        due.is("best(0, 13)", x.best(0, 13), 10);
        due.is("card(1, 1)", x.card(1, 1), 10);
        x.waits(1, 0);
        due.is("best(1, 12)", x.best(1, 12), -5);
        due.is("best(0, 12)", x.best(0, 12), 1);
        due.is("best(2, 0)", x.best(2, 0), -1);
        due.is("best(-1, 0)", x.best(-1, 0), -1);
        due.is("best(0, 14)", x.best(0, 14), -1);
        due.is("best(0, 9)", x.best(0, 9), -1);
        due.is("best(0, 1)", x.best(0, 1), -1);
        due.is("best(0, MIN)", x.best(0, MIN), -1);
    }

    /** What nobody has is not ISSUED, so that another TICKET in its CURRENCY is worth more. */
    private void loss() {
        due.promise(23);
        TicketHall x = new TicketHall();
        x.client(0, 0);
        x.currency();
        fund(x, "c1<15c0+15c0;p0<10c1+20c1+16c0");
        due.is("worth(4, 0)", x.worth(4, 0), 46);
        due.is("best(0, 0)", x.best(0, 0), 4);
        x.amount(4, 15);
        due.is("best(0, 0)", x.best(0, 0), 0);
        x.ticket(0, 9);
        x.give(0, -1);
        due.is("best(0, 0)", x.best(0, 0), 1);
    }

    private void raise() {
        due.promise(23);
        TicketHall x = hallOf(1, 200);
        due.is("best(0, 10)", x.best(0, 10), 200);
        x.amount(1, 201);
        due.is("best(0, 10)", x.best(0, 10), -5);
        due.is("best(0, 11)", x.best(0, 11), 1);
        x.give(1, -1);
        due.is("best(0, 11)", x.best(0, 11), 1);
        due.is("best(1, 11)", x.best(1, 11), -5);
    }

    private void see() {
        due.promise(24);
        TicketHall x = hallOf(2, 3);
        due.is("see(0, 1)", x.see(0, 1), 1);
        due.is("see(1, 12)", x.see(1, 12), 2);
        due.is("see(2, 0)", x.see(2, 0), -1);
        due.is("see(-2, 1)", x.see(-2, 1), -1);
        due.is("see(1, 13)", x.see(1, 13), -2);
        due.is("see(1, 0)", x.see(1, 0), -2);
        due.is("see(1, 1)", x.see(1, 1), 3);
        due.is("seeds()", x.seeds(), 0);
        x.see(1, 1);
        due.is("see(1, 1)", x.see(1, 1), 5);
        due.is("see(1, 1)", x.see(1, 1), -4);
        due.is("see(1, 0)", x.see(1, 0), -2);
        due.is("count(3)", x.count(3), 5);
        due.is("see(-1, MIN)", x.see(-1, MIN), 0);
        due.is("count(3)", x.count(3), 0);
        due.is("see(1, 1)", x.see(1, 1), 1);
    }

    private void seeds() {
        due.promise(25);
        TicketHall x = hallOf(2, 3);
        due.is("seeds()", x.seeds(), MAX);
        int first = 0;
        int third = 0;
        for (int seed = 0; seed < 31; seed++) {
            first |= x.on(seed, 1, 0) == 0 ? 1 << seed : 0;
            third |= x.on(seed, 3, 0) == 1 ? 1 << seed : 0;
        }
        x.see(0, 1);
        due.is("seeds()", x.seeds(), first);
        due.holds("some, not all", first != 0 && first != MAX);
        x.see(1, 3);
        due.is("seeds()", x.seeds(), first & third);
        due.is("told(0)", x.told(0), 0);
        // From now: behind other QUANTA they are others.
        x.see(-1, 0);
        x.see(0, 12);
        int before = x.seeds();
        x.amount(0, 1);
        due.holds("other odds", before != x.seeds());
        // A CLIENT that never runs is never seen.
        x.client(0, 0);
        x.see(-1, 0);
        x.see(2, 5);
        due.is("seeds()", x.seeds(), 0);
    }

    private void can() {
        due.promise(26);
        TicketHall x = new TicketHall();
        x.client(1, 4);
        x.client(0, 0);
        x.ticket(0, 10);
        x.ticket(0, 10);
        x.give(0, 0);
        x.give(1, 1);
        due.is("can(0, 5, 0)", x.can(0, 5, 0), 10);
        due.is("can(0, 5, 1)", x.can(0, 5, 1), 0);
        x.see(x.on(5, 1, 0) == 0 ? 1 : 0, 1);
        due.is("can(0, 5, 0)", x.can(0, 5, 0), 0);
        due.is("can(0, 5, 1)", x.can(0, 5, 1), -5);
        due.is("of(0, 1)", x.of(0, 1), 4);
        int some = 0;
        for (int seed = 0; seed < 31; seed++) {
            x.see(-1, 0);
            x.see(0, 2);
            x.see(1, 4);
            int many = 0;
            int least = -5;
            for (int v = 9; v >= 0; v--) {
                TicketHall y = new TicketHall();
                y.client(1, v);
                y.client(0, 0);
                fund(y, "p0<10c0;p1<10c0");
                if (y.on(seed, 2, 0) == 0 && y.on(seed, 4, 0) == 1) {
                    many++;
                    least = v;
                }
            }
            some += many > 0 && least > 0 ? 1 : 0;
            due.is("can(0, seed, 0)", x.can(0, seed, 0), many);
            due.is("can(0, seed, 1)", x.can(0, seed, 1), least);
        }
        due.holds("some, not all", some > 0);
        due.is("can(2, 0, 0)", x.can(2, 0, 0), -1);
        due.is("can(-1, 0, 0)", x.can(-1, 0, 0), -1);
        due.is("can(0, 0, 2)", x.can(0, 0, 2), -1);
        due.is("can(0, 0, -1)", x.can(0, 0, -1), -1);
    }

    private void odds() {
        due.promise(27);
        TicketHall x = hallOf(2, 4, 6);
        due.is("odds(1, 0)", x.odds(1, 0), 1);
        due.is("odds(1, 1)", x.odds(1, 1), 3);
        x.waits(0, 1);
        due.is("odds(0, 0)", x.odds(0, 0), 0);
        due.is("odds(0, 1)", x.odds(0, 1), 1);
        due.is("odds(1, 0)", x.odds(1, 0), 1);
        due.is("odds(1, 1)", x.odds(1, 1), 2);
        due.is("odds(3, 0)", x.odds(3, 0), NO);
        due.is("odds(-1, 0)", x.odds(-1, 0), NO);
        due.is("odds(0, 2)", x.odds(0, 2), NO);
        due.is("odds(0, -1)", x.odds(0, -1), NO);
        TicketHall none = new TicketHall();
        none.client(0, 0);
        due.is("odds(0, 0)", none.odds(0, 0), NO);
        due.is("odds(0, 1)", none.odds(0, 1), NO);
    }

    private void mean() {
        due.promise(28);
        TicketHall x = new TicketHall();
        due.is("mean(0)", x.mean(0), NO);
        due.is("mean(1)", x.mean(1), NO);
        x.client(0, 0);
        due.is("mean(0)", x.mean(0), 0);
        due.is("mean(1)", x.mean(1), 1);
        fund(x, "p0<1c0");
        x.client(0, 0);
        x.client(0, 0);
        x.client(0, 0);
        x.stride(5);
        due.is("mean(0)", x.mean(0), 25);
        due.is("mean(1)", x.mean(1), 2);
        due.is("mean(2)", x.mean(2), NO);
        due.is("mean(-1)", x.mean(-1), NO);
    }

    private void plan() {
        due.promise(29);
        TicketHall x = hallOf(2, 4);
        due.is("plan(0, MIN)", x.plan(0, MIN), 1);
        due.is("plan(1, 2)", x.plan(1, 2), -1);
        due.is("plan(3, -1)", x.plan(3, -1), -1);
        due.is("plan(2, 2)", x.plan(2, 2), -1);
        due.is("plan(2, -1)", x.plan(2, -1), -1);
        due.is("plan(4, 0)", x.plan(4, 0), -1);
        due.is("plan(-2, 0)", x.plan(-2, 0), -1);
        due.is("plan(1, 1)", x.plan(1, 1), 2);
        due.is("plan(2, 1)", x.plan(2, 1), 3);
        due.is("plan(3, 1)", x.plan(3, 1), 4);
        for (int k = 5; k <= 10; k++) {
            due.is("plan(0, 0)", x.plan(0, 0), k);
        }
        due.is("plan(0, 0)", x.plan(0, 0), -4);
        due.is("plan(1, 2)", x.plan(1, 2), -1);
        due.is("count(4)", x.count(4), 10);
        due.is("plan(-1, MAX)", x.plan(-1, MAX), 0);
        due.is("count(4)", x.count(4), 0);
        due.is("plan(3, 0)", x.plan(3, 0), 1);
    }

    private void ends() {
        due.promise(30);
        TicketHall x = hallOf(100, 100, 5000);
        x.waits(0, 1);
        x.stride(1);
        due.is("ends(0)", x.ends(0), 10);
        due.is("ends(1)", x.ends(1), 10);
        due.is("ends(2)", x.ends(2), 2);
        // The third is READY no more, the first is again; it runs, with half the STRIDE, and is ahead yet.
        x.plan(1, 2);
        due.is("ends(2)", x.ends(2), 1);
        x.plan(2, 0);
        due.is("ends(2)", x.ends(2), 0);
        x.plan(3, 0);
        x.plan(0, 0);
        due.is("ends(0)", x.ends(0), 20);
        due.is("ends(1)", x.ends(1), 20);
        due.is("ends(2)", x.ends(2), 0);
        x.plan(0, 0);
        due.is("ends(2)", x.ends(2), 1);
        due.is("ends(3)", x.ends(3), -1);
        due.is("ends(-1)", x.ends(-1), -1);
        due.is("told(0)", x.told(0), 10);
        due.is("of(0, 5)", x.of(0, 5), 1);
        due.is("card(0, 1)", x.card(0, 1), 100);
        due.is("card(2, 2)", x.card(2, 2), 2);
    }

    /** 5000 twice is 9999, so its STRIDE is 10001, and 10000 by two of 5000 is ahead of that. */
    private void endsAtMost() {
        due.promise(30);
        TicketHall x = hallOf(5000, 5000);
        x.ticket(0, 5000);
        x.give(2, 1);
        x.plan(3, 0);
        x.plan(0, 0);
        x.plan(0, 0);
        due.is("ends(2)", x.ends(2), 1);
        x.plan(-1, 0);
        x.plan(0, 0);
        x.plan(3, 0);
        x.plan(0, 0);
        // Twice as much only behind its first QUANTUM: 20000, 10000.
        due.is("ends(2)", x.ends(2), 1);
        x.plan(0, 0);
        due.is("ends(2)", x.ends(2), 0);
        due.is("count(4)", x.count(4), 4);
        TicketHall none = new TicketHall();
        none.plan(0, 0);
        due.is("ends(0)", none.ends(0), 10);
        due.is("ends(1)", none.ends(1), 0);
        due.is("ends(2)", none.ends(2), -5);
    }

    /** TICKET 1 is taken, or doubled; CLIENT 1 goes on WAITING. */
    private void endsWaiting() {
        due.promise(30);
        TicketHall x = hallOf(10, 20);
        x.stride(1);
        x.waits(1, 0);
        x.plan(1, 1);
        x.plan(3, 1);
        due.is("ends(2)", x.ends(2), 0);
        x.plan(0, 1);
        due.is("ends(2)", x.ends(2), 0);
        x.plan(-1, 0);
        x.plan(2, 1);
        due.is("ends(2)", x.ends(2), 1);
    }

    /** Each sort of row does its own and no other's, to CLIENTS and TICKETS of the same number. */
    private void endsRows() {
        due.promise(30);
        TicketHall x = hallOf(30, 16);
        x.stride(1);
        x.plan(3, 0);
        x.plan(0, 0);
        x.plan(0, 0);
        x.plan(0, 0);
        // 3333333 at first, then by 60 twice 1666666 more: behind 6250000 of the other, as 30 or 90 would not be.
        due.is("ends(2)", x.ends(2), 1);
        x.plan(-1, 0);
        x.waits(1, 0);
        x.plan(1, 1);
        due.is("ends(2)", x.ends(2), 0);
        x.plan(3, 1);
        due.is("ends(2)", x.ends(2), 0);
        x.plan(2, 0);
        due.is("ends(2)", x.ends(2), 0);
        TicketHall y = new TicketHall();
        y.client(0, 0);
        y.client(0, 0);
        y.currency();
        fund(y, "c1<20c0;p0<1c1;p1<3c1;p0<1c1+9c0");
        y.plan(1, 3);
        y.plan(0, 0);
        y.plan(0, 0);
        y.plan(0, 0);
        // Freed, the last TICKET is not ISSUED: 5 and 9, 15 of 20, not 4 and 9, 12.
        due.is("ends(0)", y.ends(0), 30);
        due.is("ends(2)", y.ends(2), 0);
    }

    private void book() {
        due.promise(31);
        TicketHall x = hallOf(2, 4);
        due.is("book(0, 0)", x.book(0, 0), 1);
        due.is("book(2, -1)", x.book(2, -1), -1);
        due.is("book(-2, 0)", x.book(-2, 0), -1);
        due.is("book(1, -1)", x.book(1, -1), -2);
        due.is("book(1, MIN)", x.book(1, MIN), -2);
        for (int k = 2; k <= 8; k++) {
            due.is("book(1, MAX)", x.book(1, MAX), k);
        }
        due.is("book(1, 0)", x.book(1, 0), -4);
        due.is("book(1, -1)", x.book(1, -1), -2);
        due.is("count(5)", x.count(5), 8);
        due.is("book(-1, -1)", x.book(-1, -1), 0);
        due.is("count(5)", x.count(5), 0);
    }

    private void looked() {
        due.promise(32);
        TicketHall x = hallOf(2, 4);
        due.is("looked()", x.looked(), -5);
        x.book(0, 0);
        x.book(1, 0);
        x.book(1, 10);
        due.is("looked()", x.looked(), 2);
        x.waits(0, 1);
        x.stride(1);
        due.is("looked()", x.looked(), 1);
        x.book(-1, 0);
        x.book(1, 10);
        x.book(0, 0);
        due.is("looked()", x.looked(), -5);
        x.stride(1);
        due.is("looked()", x.looked(), 0);
    }

    private void judge() {
        due.promise(33);
        TicketHall x = new TicketHall();
        due.is("judge(0, MIN)", x.judge(0, MIN), -5);
        due.is("judge(6, 0)", x.judge(6, 0), -1);
        due.is("judge(-1, 0)", x.judge(-1, 0), -1);
        x.tape(0, 2, 3);
        due.is("judge(0, 0)", x.judge(0, 0), -12);
        fund(x, "");
        x.client(0, 0);
        x.currency();
        fund(x, "p0<5c0;c1<9c0;p0<7c1");
        due.is("judge(1, 0)", x.judge(1, 0), 100);
        due.is("judge(0, 9)", x.judge(0, 9), -12);
        x.tape(1, 3, 5);
        x.item(1, 2, 5);
        x.item(1, 3, 9);
        x.item(1, 4, 9);
        due.is("judge(1, 2)", x.judge(1, 2), -5);
        due.is("judge(1, 1)", x.judge(1, 1), 0);
        due.is("judge(1, 5)", x.judge(1, 5), 100);
        due.is("judge(1, -1)", x.judge(1, -1), 100);
        due.is("judge(1, MIN)", x.judge(1, MIN), 100);
        due.is("judge(1, MAX)", x.judge(1, MAX), 100);
        x.item(1, 4, 8);
        due.is("judge(1, 2)", x.judge(1, 2), 2);
        x.item(1, 3, 5);
        x.item(1, 4, 9);
        due.is("judge(1, 3)", x.judge(1, 3), 102);
        x.item(1, 4, 5);
        due.is("judge(1, 4)", x.judge(1, 4), 101);
        x.item(1, 2, 5L + (1L << 32));
        due.is("judge(1, 2)", x.judge(1, 2), 0);
        x.tape(1, 3, 3);
        x.item(1, 0, 5);
        x.item(1, 1, 9);
        x.item(1, 2, 9);
        due.is("judge(1, 0)", x.judge(1, 0), -5);
        x.item(1, 0, 9);
        due.is("judge(1, 1)", x.judge(1, 1), 0);
        x.tape(1, -1, 0);
        due.is("judge(1, 0)", x.judge(1, 0), 100);
    }

    private void image() {
        due.promise(34);
        TicketHall x = new TicketHall();
        due.is("image()", x.image(), 0);
        x.client(0, 0);
        x.client(0, 0);
        due.is("image()", x.image(), 2);
        x.client(0, 0);
        due.is("undo()", x.undo(), 2);
        due.is("count(2)", x.count(2), 2);
    }

    private void undo() {
        due.promise(35);
        TicketHall x = hallOf(1, 2);
        x.client(6, 3);
        x.currency();
        x.ticket(0, 9);
        x.back(2, 1);
        x.waits(0, 1);
        x.row(2, 1, 4);
        x.stride(2);
        x.see(0, 1);
        x.plan(0, 0);
        x.plan(3, 1);
        x.book(1, 20);
        x.feed('p');
        x.image();
        x.currency();
        x.ticket(1, 3);
        x.give(2, 2);
        x.amount(0, 77);
        x.back(0, 2);
        x.client(0, 0);
        x.waits(0, -1);
        x.row(2, 1, 8);
        x.stride(30);
        x.see(-1, 0);
        x.plan(-1, 0);
        x.plan(1, 1);
        x.book(-1, 0);
        x.feed('0');
        x.tape(0, 2, 2);
        x.item(0, 1, 6);
        for (int time = 0; time < 2; time++) {
            due.is("undo()", x.undo(), 3);
            int[] counts = {2, 3, 3, 1, 2, 1, 2};
            for (int what = 0; what < 7; what++) {
                due.is("count(" + what + ")", x.count(what), counts[what]);
            }
            due.is("told(0)", x.told(0), 20);
            due.is("card(0, 1)", x.card(0, 1), 1);
            due.is("card(0, 2)", x.card(0, 2), 0);
            due.is("card(2, 2)", x.card(2, 2), 11);
            due.is("of(0, 5)", x.of(0, 5), 1);
            due.is("of(1, 2)", x.of(1, 2), 20);
            due.is("of(1, 3)", x.of(1, 3), 10);
            due.is("of(1, 4)", x.of(1, 4), 66666666);
            due.is("row(2, 1, 9)", x.row(2, 1, 9), 4);
            due.is("looked()", x.looked(), -5);
            due.is("ends(0)", x.ends(0), 30);
            due.is("read(0, 1)", x.read(0, 1), 6);
            x.stride(1);
            x.give(0, -1);
            x.book(-1, 0);
        }
    }

    private void undoLowered() {
        due.promise(35);
        TicketHall x = hallOf(1);
        x.stride(21);
        x.image();
        x.stride(1);
        due.is("told(1)", x.told(1), 1);
        x.undo();
        due.is("told(1)", x.told(1), 0);
        due.is("of(0, 4)", x.of(0, 4), 2100000000);
    }

    private void taken() {
        due.promise(36);
        TicketHall x = new TicketHall();
        for (int kind = 0; kind < 7; kind++) {
            x.client(kind, 0);
        }
        int[] under = {0x7f, 0x12, 0x24, 0x48, 0x10, 0x20, 0x40};
        for (int k = 0; k < 7; k++) {
            for (int p = 0; p < 7; p++) {
                due.is("taken(" + p + ", " + k + ")", x.taken(p, k), (under[k] >> p & 1) != 0 ? p : -12);
            }
        }
        due.is("taken(0, 7)", x.taken(0, 7), -2);
        due.is("taken(9, -1)", x.taken(9, -1), -2);
        due.is("taken(7, 0)", x.taken(7, 0), -11);
        due.is("taken(-1, 6)", x.taken(-1, 6), -11);
        due.is("taken(MIN, 6)", x.taken(MIN, 6), -11);
    }

    private void count() {
        due.promise(37);
        TicketHall x = hallOf(1, 2, 3);
        x.currency();
        x.ticket(0, 1);
        x.see(0, 1);
        x.see(0, 2);
        x.plan(0, 0);
        x.book(0, 0);
        x.book(0, 0);
        x.book(0, 0);
        x.feed(1);
        int[] counts = {2, 4, 3, 2, 1, 3, 1};
        for (int what = 0; what < 7; what++) {
            due.is("count(" + what + ")", x.count(what), counts[what]);
        }
        due.is("count(7)", x.count(7), -2);
        due.is("count(-1)", x.count(-1), -2);
        due.is("count(MIN)", x.count(MIN), -2);
    }

    private void tape() {
        due.promise(38);
        TicketHall x = new TicketHall();
        due.is("tape(5, 4, 60)", x.tape(5, 4, 60), 1);
        due.is("read(5, 59)", x.read(5, 59), 0);
        due.is("read(5, 60)", x.read(5, 60), NO);
        x.item(5, 59, 9);
        due.is("tape(5, 4, 61)", x.tape(5, 4, 61), -2);
        due.is("tape(5, 4, -1)", x.tape(5, 4, -1), -14);
        due.is("tape(5, 5, -1)", x.tape(5, 5, -1), -2);
        due.is("tape(5, -2, 1)", x.tape(5, -2, 1), -2);
        due.is("tape(6, 9, 99)", x.tape(6, 9, 99), -1);
        due.is("tape(-1, 0, 0)", x.tape(-1, 0, 0), -1);
        due.is("read(5, 59)", x.read(5, 59), 1);
        due.is("tape(5, 3, 60)", x.tape(5, 3, 60), 1);
        due.is("read(5, 59)", x.read(5, 59), 0);
        due.is("tape(5, 0, 0)", x.tape(5, 0, 0), 1);
        due.is("item(5, 0, 1)", x.item(5, 0, 1), -13);
        due.is("tape(5, -1, MIN)", x.tape(5, -1, MIN), 1);
        due.is("item(5, 0, 1)", x.item(5, 0, 1), -11);
        due.is("tape(5, -1, 61)", x.tape(5, -1, 61), 1);
        due.is("read(5, 0)", x.read(5, 0), NO);
    }

    private void item() {
        due.promise(39);
        TicketHall x = new TicketHall();
        long[] fits = {-1, -1, -1, -1, 1};
        long[] wide = {0, 0, 0, 1L << 32, 1};
        long[] half = {-128, 128, 128, 128, 1};
        for (int sort = 0; sort < 5; sort++) {
            x.tape(1, sort, 4);
            due.is("item(1, 3, -1)", x.item(1, 3, -1), 1);
            due.is("read(1, 3)", x.read(1, 3), fits[sort]);
            x.item(1, 3, 1L << 32);
            due.is("read(1, 3)", x.read(1, 3), wide[sort]);
            x.item(1, 3, 128);
            due.is("read(1, 3)", x.read(1, 3), half[sort]);
            x.item(1, 3, 0);
            due.is("read(1, 3)", x.read(1, 3), 0);
            due.is("item(1, 4, 1)", x.item(1, 4, 1), -13);
            due.is("item(1, -1, 1)", x.item(1, -1, 1), -13);
        }
        due.is("item(0, -1, 1)", x.item(0, -1, 1), -11);
        due.is("item(6, 0, 1)", x.item(6, 0, 1), -1);
        due.is("item(-1, 0, 1)", x.item(-1, 0, 1), -1);
    }

    private void read() {
        due.promise(40);
        TicketHall x = new TicketHall();
        x.tape(2, 3, 2);
        x.item(2, 1, Long.MAX_VALUE);
        due.is("read(2, 1)", x.read(2, 1), Long.MAX_VALUE);
        due.is("read(2, 0)", x.read(2, 0), 0);
        due.is("read(2, 2)", x.read(2, 2), NO);
        due.is("read(2, -1)", x.read(2, -1), NO);
        due.is("read(3, 0)", x.read(3, 0), NO);
        due.is("read(6, 0)", x.read(6, 0), NO);
        due.is("read(-1, 0)", x.read(-1, 0), NO);
        x.tape(2, -1, 0);
        due.is("read(2, 1)", x.read(2, 1), NO);
    }

    private void shift() {
        due.promise(41);
        TicketHall x = new TicketHall();
        x.tape(0, 2, 5);
        x.tape(1, 2, 3);
        x.tape(2, 3, 5);
        for (int i = 0; i < 5; i++) {
            x.item(0, i, i + 1);
        }
        due.is("shift(0, 3, 1, 1, 2)", x.shift(0, 3, 1, 1, 2), 2);
        due.is("read(1, 0)", x.read(1, 0), 0);
        due.is("read(1, 1)", x.read(1, 1), 4);
        due.is("read(1, 2)", x.read(1, 2), 5);
        due.is("shift(0, 0, 0, 1, 4)", x.shift(0, 0, 0, 1, 4), 4);
        int[] up = {1, 1, 2, 3, 4};
        for (int i = 0; i < 5; i++) {
            due.is("read(0, i)", x.read(0, i), up[i]);
        }
        due.is("shift(0, 2, 0, 0, 3)", x.shift(0, 2, 0, 0, 3), 3);
        int[] down = {2, 3, 4, 3, 4};
        for (int i = 0; i < 5; i++) {
            due.is("read(0, i)", x.read(0, i), down[i]);
        }
        due.is("shift(0, 5, 1, 3, 0)", x.shift(0, 5, 1, 3, 0), 0);
        int[][] wrong = {{0, 6, 1, 0, 0}, {0, 0, 1, 4, 0}, {0, 0, 1, 0, 4}, {0, 4, 1, 0, 2}, {0, -1, 1, 0, 1},
            {0, 0, 1, -1, 1}, {0, 0, 1, 0, -1}, {0, MAX, 1, 0, 1}, {0, 0, 1, MAX, 1}, {0, 1, 1, 1, MAX},
            {0, MIN, 1, MIN, MIN}};
        for (int[] w : wrong) {
            due.is("shift", x.shift(w[0], w[1], w[2], w[3], w[4]), -13);
        }
        due.is("shift(0, -1, 2, 0, 1)", x.shift(0, -1, 2, 0, 1), -12);
        due.is("shift(0, 0, 3, 0, 1)", x.shift(0, 0, 3, 0, 1), -11);
        due.is("shift(3, 0, 0, 0, 1)", x.shift(3, 0, 0, 0, 1), -11);
        due.is("shift(3, 0, 6, 0, 1)", x.shift(3, 0, 6, 0, 1), -1);
        due.is("shift(-1, 0, 0, 0, 1)", x.shift(-1, 0, 0, 0, 1), -1);
    }

    private void run() {
        newObject();
        currency();
        ticket();
        client();
        clientPass();
        clientBehindUndo();
        amount();
        give();
        back();
        waits();
        waitsAll();
        row();
        of();
        parts();
        partsLater();
        ready();
        card();
        worth();
        greatWorth();
        needs();
        order();
        feed();
        fundFaults();
        fund();
        draw();
        drawYielder();
        limit(17);
        drawOfOne();
        limitItself(17);
        limitItself(18);
        stride();
        lowered();
        limit(18);
        loweredBeyond();
        allEight();
        told();
        on();
        by();
        lag();
        lagOfOne();
        lagYielder();
        best();
        loss();
        raise();
        see();
        seeds();
        can();
        odds();
        mean();
        plan();
        ends();
        endsAtMost();
        endsWaiting();
        endsRows();
        book();
        looked();
        judge();
        image();
        undo();
        undoLowered();
        taken();
        count();
        tape();
        item();
        read();
        shift();
        due.needPromises(1, 41);
        due.end();
    }

    public static void main(String[] args) {
        new PromiseTest().run();
    }
}

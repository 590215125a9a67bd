/** Promises 1 to 14 at their edges: each sentence that names one, what is just beyond it, and each refusal. */
public final class CurrencyEdgesTest {
    private static final Script BARE = Scenes.BARE;
    private static final Script SOME = Scenes.SOME;
    private static final Script FULL = Scenes.FULL;
    private static final Script CHAIN = Scenes.CHAIN;

    private final Edges edges = new Edges("CurrencyEdgesTest");

    private static String[] each(String call, int below) {
        String[] calls = new String[below];
        for (int k = 0; k < below; k++) {
            calls[k] = call.replace("#", "" + k);
        }
        return calls;
    }

    // ---- promise 1

    private void newObject() {
        edges.promise(1, "BASE alone");
        edges.run(BARE, "count 0 = 1", "count 1 = 0", "count 2 = 0", "count 3 = 0", "count 4 = 0", "count 5 = 0",
                "count 6 = 0", "order = 0", "needs 0 0 = 0", "needs 0 1 = 0", "worth 1 0 = 0", "worth 2 0 = 0",
                "worth 5 0 = 0", "seeds = MAX", "ends 0 = 0", "ends 1 = 0", "ends 2 = -5", "looked = -5",
                "mean 0 = NO", "mean 1 = NO");
        edges.run(BARE, "needs 1 0 = NONE", "worth 1 1 = NO", "ticket 1 1 = NONE", "ticket 0 1 = 0");
        edges.run(BARE, "client 0 0 = 0", "currency = 1");
        edges.promise(1, "at first: CLOCK 0, LOWERED 0, none NEXT, none READY");
        edges.run(BARE, "told 0 = 0", "told 1 = 0", "told 2 = -5", "told 3 = 0");
        edges.promise(1, "TAPES hold nothing at first");
        edges.run(BARE, each("item # 0 1 = NOTHING", 6));
        edges.run(BARE, each("read # 0 = NO", 6));
        edges.promise(1, "no IMAGE, no byte of THE TEXT at first");
        edges.run(BARE, "undo = STATE", "fund = -10", "feed 1 = 1");
        edges.promise(1, "a new object has nothing of another one");
        FULL.hall();
        edges.run(BARE, "count 0 = 1", "count 1 = 0", "count 2 = 0", "undo = STATE", "read 0 0 = NO", "told 0 = 0");
    }

    private void constants() {
        edges.promise(1, "the constants");
        edges.is("NONE", TicketHall.NONE, -1);
        edges.is("BAD", TicketHall.BAD, -2);
        edges.is("STATE", TicketHall.STATE, -3);
        edges.is("FULL", TicketHall.FULL, -4);
        edges.is("NO", TicketHall.NO, Long.MIN_VALUE);
    }

    // ---- promise 2

    private void currency() {
        edges.promise(2, "CURRENCIES 0 .. 5, as they come; FULL: 6");
        edges.run(BARE, "currency = 1", "currency = 2", "currency = 3", "currency = 4", "count 0 = 5", "currency = 5",
                "count 0 = 6", "currency = FULL", "currency = FULL", "count 0 = 6", "ticket 5 1 = 0",
                "ticket 6 1 = NONE", "order = 12345");
        edges.refused(FULL, "currency = FULL");
        edges.promise(2, "one that has come is there, and the one behind it is not");
        edges.run(BARE, "ticket 1 1 = NONE", "currency = 1", "ticket 1 1 = 0", "ticket 2 1 = NONE", "currency = 2",
                "ticket 2 1 = 1", "worth 1 2 = 0", "worth 2 2 = 0", "needs 2 0 = 0", "needs 2 1 = 0");
    }

    // ---- promise 3

    private void ticket() {
        edges.promise(3, "AMOUNT 1 .. 9999, of CURRENCY 0 to the last");
        edges.run(SOME, "ticket 0 1 = 11", "ticket 0 9999 = 12", "ticket 2 1 = 13", "ticket 2 9999 = 14",
                "card 11 1 = 1", "card 12 1 = 9999", "card 12 0 = 0", "card 14 0 = 2", "card 14 1 = 9999");
        edges.promise(3, "neither held nor backing at first");
        edges.run(SOME, "ticket 0 5 = 11", "card 11 2 = -5", "worth 2 0 = 1900", "give 11 0 = -5",
                "worth 2 0 = 1905");
        edges.promise(3, "NONE: currency, ahead of BAD");
        edges.refused(SOME, "ticket -1 5 = NONE", "ticket 3 5 = NONE", "ticket 6 5 = NONE", "ticket MIN 5 = NONE",
                "ticket MAX 5 = NONE", "ticket 3 0 = NONE", "ticket -1 10000 = NONE");
        edges.refused(BARE, "ticket 1 1 = NONE", "ticket -1 1 = NONE");
        edges.promise(3, "BAD: amount");
        edges.refused(SOME, "ticket 0 0 = BAD", "ticket 0 10000 = BAD", "ticket 2 -1 = BAD", "ticket 0 MIN = BAD",
                "ticket 0 MAX = BAD");
        edges.promise(3, "TICKETS 0 .. 23; FULL: 24, behind NONE and BAD");
        edges.run(BARE, each("ticket 0 1 = #", 24));
        edges.run(BARE.times(23, "ticket 0 1"), "ticket 0 7 = 23", "ticket 0 7 = FULL", "count 1 = 24",
                "card 23 1 = 7", "card 24 1 = NONE");
        edges.refused(FULL, "ticket 0 1 = FULL", "ticket 5 9999 = FULL", "ticket 6 1 = NONE", "ticket -1 1 = NONE",
                "ticket 0 0 = BAD", "ticket 5 10000 = BAD");
    }

    // ---- promise 4

    private void client() {
        edges.promise(4, "KINDS 0 .. 6, a number v 0 .. 9");
        edges.run(BARE, "client 0 0 = 0", "client 6 9 = 1", "client 0 9 = 2", "client 6 0 = 3", "of 0 0 = 0",
                "of 0 1 = 0", "of 1 0 = 6", "of 1 1 = 9", "of 2 0 = 0", "of 2 1 = 9", "of 3 0 = 6", "of 3 1 = 0");
        edges.promise(4, "at first RAN 0, USED 10, WAITING for none, holding nothing, ROW 0");
        edges.run(SOME, "client 6 4 = 7", "of 7 2 = 0", "of 7 3 = 10", "of 7 5 = -5", "worth 3 7 = 0", "of 7 6 = 0",
                "row 7 0 1 = 0", "row 7 1 1 = 0", "row 7 2 1 = 0", "row 7 3 1 = 0");
        edges.promise(4, "NONE: kind, ahead of BAD");
        edges.refused(SOME, "client -1 0 = NONE", "client 7 0 = NONE", "client MIN 9 = NONE", "client MAX 9 = NONE",
                "client 7 10 = NONE", "client -1 -1 = NONE");
        edges.refused(BARE, "client -1 0 = NONE", "client 7 0 = NONE");
        edges.promise(4, "BAD: v");
        edges.refused(SOME, "client 0 -1 = BAD", "client 0 10 = BAD", "client 6 MIN = BAD", "client 6 MAX = BAD");
        edges.promise(4, "CLIENTS 0 .. 7, as they come; FULL: 8, behind NONE and BAD");
        edges.run(BARE, each("client 0 # = #", 8));
        edges.run(BARE.times(7, "client 0 0"), "client 1 5 = 7", "client 1 5 = FULL", "count 2 = 8", "of 7 1 = 5",
                "of 8 1 = NONE");
        edges.refused(FULL, "client 0 0 = FULL", "client 6 9 = FULL", "client 7 0 = NONE", "client -1 0 = NONE",
                "client 0 10 = BAD", "client 6 -1 = BAD");
    }

    private void clientPass() {
        edges.promise(4, "PASS, as it comes: 0, if none is there");
        edges.run(BARE.times(3, "stride 40"), "client 0 0 = 0", "of 0 4 = 0");
        edges.promise(4, "PASS, as it comes: the least of all that are there");
        edges.run(Scenes.funded(1), "stride 1 = 0", "client 0 0 = 1", "of 1 4 = 100000000");
        edges.run(Scenes.funded(30, 10, 20), "stride 3 = 2", "of 0 4 = 3333333", "of 1 4 = 10000000",
                "of 2 4 = 5000000", "client 0 0 = 3", "of 3 4 = 3333333");
        edges.run(Scenes.funded(10, 30, 20), "stride 3 = 2", "client 0 0 = 3", "of 3 4 = 3333333");
        edges.run(Scenes.funded(10, 20, 30), "stride 3 = 2", "client 0 0 = 3", "of 3 4 = 3333333");
        edges.promise(4, "of all, also of those that are not READY");
        edges.run(Scenes.funded(30, 10, 20), "stride 3 = 2", "waits 0 1 = -5", "client 0 0 = 3", "of 3 4 = 3333333");
        edges.run(Scenes.funded(30, 10, 20), "stride 3 = 2", "give 0 -1 = 0", "client 0 0 = 3", "of 3 4 = 3333333");
        edges.promise(4, "of one that holds nothing it is 0 till it runs");
        edges.run(BARE.then("client 0 0").then("ticket 0 1", "client 0 0", "give 0 1"), "stride 1 = 1",
                "of 1 4 = 100000000", "of 0 4 = 0", "client 0 0 = 2", "of 2 4 = 0");
        edges.promise(4, "what an undone CLIENT had is not the next one's");
        edges.same("behind undo", BARE.then("image", "client 6 3", "row 0 0 9", "row 0 3 9", "ticket 0 1", "give 0 0",
                "stride 2", "give 0 -1", "client 0 0", "waits 0 1", "undo", "client 6 4"),
                BARE.then("image", "client 6 4"), 0, 1);
    }

    /** Rows 9, 8, 7 .. of TOLD ones, which must stay their own. */
    private void clientRows() {
        edges.promise(4, "ROW 0 at first of each, and each one's its own, as others come and go");
        Script rows = BARE.then("image");
        for (int p = 0; p < 8; p++) {
            rows = rows.then("client 6 0", "row " + p + " 0 " + p, "row " + p + " 1 1", "row " + p + " 2 2",
                    "row " + p + " 3 " + (9 - p));
        }
        String[] look = new String[32];
        for (int k = 0; k < 32; k++) {
            int[] part = {k / 4, 1, 2, 9 - k / 4};
            look[k] = "row " + k / 4 + " " + k % 4 + " 5 = " + part[k % 4];
        }
        edges.run(rows, look);
        edges.same("eight TOLD ones behind undo", rows.then("undo").times(8, "client 6 0"),
                BARE.then("image").times(8, "client 6 0"), 0, 1);
    }

    // ---- promise 5

    private void amount() {
        edges.promise(5, "AMOUNT becomes n (1 .. 9999): what it was");
        edges.run(SOME, "amount 0 1 = 1000", "card 0 1 = 1", "amount 0 9999 = 1", "card 0 1 = 9999",
                "amount 0 9999 = 9999", "amount 10 9999 = 50", "amount 10 1 = 9999", "worth 3 0 = 9999",
                "amount 9 1 = 81");
        edges.run(FULL, "amount 23 9999 = 1", "amount 23 1 = 9999");
        edges.promise(5, "NONE, ahead of BAD");
        edges.refused(SOME, "amount -1 1 = NONE", "amount 11 1 = NONE", "amount 24 1 = NONE", "amount MIN 1 = NONE",
                "amount MAX 1 = NONE", "amount 11 0 = NONE", "amount -1 10000 = NONE");
        edges.refused(BARE, "amount 0 1 = NONE");
        edges.refused(FULL, "amount 24 1 = NONE");
        edges.promise(5, "BAD");
        edges.refused(SOME, "amount 0 0 = BAD", "amount 0 10000 = BAD", "amount 10 -1 = BAD", "amount 0 MIN = BAD",
                "amount 0 MAX = BAD");
        edges.refused(FULL, "amount 23 0 = BAD", "amount 23 10000 = BAD");
    }

    // ---- promise 6

    private void give() {
        Script all = BARE.times(8, "client 0 0").times(5, "currency").then("ticket 0 100", "ticket 0 1");
        edges.promise(6, "held by CLIENT 0 to the last: who had it");
        edges.run(all, "give 0 0 = -5", "card 0 2 = 0", "give 0 7 = 0", "card 0 2 = 7", "worth 3 7 = 100",
                "worth 3 0 = 0", "give 0 7 = 7", "give 0 0 = 7", "card 1 2 = -5");
        edges.promise(6, "10 and the CURRENCY that it backed");
        edges.run(all, "back 0 1 = -5", "give 0 7 = 11", "worth 1 1 = 0", "back 0 5 = 7", "worth 1 5 = 100",
                "give 0 -1 = 15", "worth 1 5 = 0", "worth 2 0 = 0");
        edges.promise(6, "-1: neither held nor backing");
        edges.run(all, "give 0 -1 = -5", "give 0 3 = -5", "worth 2 0 = 100", "give 0 -1 = 3", "card 0 2 = -5",
                "worth 2 0 = 0", "worth 3 3 = 0", "give 0 -1 = -5");
        edges.promise(6, "NONE: ticket, client");
        edges.refused(SOME, "give -1 0 = NONE", "give 11 0 = NONE", "give 24 0 = NONE", "give MIN 0 = NONE",
                "give MAX 0 = NONE", "give 11 -1 = NONE", "give -1 -1 = NONE", "give 0 7 = NONE", "give 1 -2 = NONE",
                "give 0 8 = NONE", "give 0 11 = NONE", "give 0 MIN = NONE", "give 0 MAX = NONE");
        edges.refused(FULL, "give 24 0 = NONE", "give 24 -1 = NONE", "give 23 8 = NONE", "give 23 -2 = NONE",
                "give 8 10 = NONE");
        edges.refused(BARE, "give 0 0 = NONE", "give 0 -1 = NONE");
    }

    // ---- promise 7

    private void back() {
        edges.promise(7, "a TICKET backs CURRENCY 1 to the last: who had it");
        edges.run(SOME, "back 0 1 = 0", "card 0 2 = 11", "worth 1 1 = 1500", "back 0 2 = 11", "worth 1 1 = 500",
                "card 0 2 = 12", "back 0 2 = 12", "give 0 -1 = 12", "back 0 1 = -5", "back 9 2 = -5");
        edges.run(FULL, "back 7 5 = 7", "card 7 2 = 15", "give 7 7 = 15");
        edges.promise(7, "NONE: ticket, currency, ahead of STATE");
        edges.refused(SOME, "back -1 1 = NONE", "back 11 1 = NONE", "back 24 1 = NONE", "back MIN 1 = NONE",
                "back MAX 1 = NONE", "back 11 0 = NONE", "back 0 -1 = NONE", "back 0 3 = NONE", "back 0 6 = NONE",
                "back 0 MIN = NONE", "back 0 MAX = NONE", "back 0 -10 = NONE");
        edges.refused(FULL, "back 24 1 = NONE", "back 0 6 = NONE", "back 24 0 = NONE");
        edges.refused(BARE, "back 0 0 = NONE", "back 0 1 = NONE");
        edges.promise(7, "STATE: BASE");
        edges.refused(SOME, "back 0 0 = STATE", "back 1 0 = STATE", "back 4 0 = STATE", "back 9 0 = STATE");
        edges.refused(BARE.then("ticket 0 1"), "back 0 0 = STATE");
        edges.promise(7, "STATE: BASE, also where the TICKET's CURRENCY HANGS ON none, so that nothing else forbids it");
        edges.refused(BARE.then("currency", "ticket 1 5", "client 0 0", "give 0 0"), "back 0 0 = STATE");
        edges.refused(BARE.times(5, "currency").then("ticket 5 9999"), "back 0 0 = STATE");
    }

    private void backHanging() {
        edges.promise(7, "STATE: it would HANG ON itself");
        edges.refused(SOME, "back 3 1 = STATE", "back 5 2 = STATE", "back 5 1 = STATE", "back 6 1 = STATE");
        edges.run(SOME, "give 3 -1 = 12", "back 6 1 = 6", "back 3 2 = STATE", "back 4 2 = STATE", "back 6 2 = STATE",
                "give 6 -1 = 11", "back 3 2 = -5");
        edges.promise(7, "or it would HANG ON itself by others, as many as there may be");
        edges.refused(CHAIN, "back 5 1 = STATE", "back 5 2 = STATE", "back 5 3 = STATE", "back 5 4 = STATE",
                "back 5 5 = STATE", "back 5 0 = STATE", "back 4 1 = STATE", "back 4 4 = STATE", "back 3 1 = STATE",
                "back 1 1 = STATE");
        edges.promise(7, "what HANGS the other way may be once more");
        edges.run(CHAIN, "back 0 5 = 11", "back 1 5 = 12", "back 1 3 = 15", "back 3 5 = 14", "back 5 1 = STATE",
                "back 3 -1 = NONE", "give 4 -1 = 15", "give 3 -1 = 15", "back 5 1 = -5", "back 1 5 = STATE");
        edges.promise(7, "what the TICKET did does not count");
        edges.run(CHAIN, "back 1 2 = 12", "back 2 3 = 13", "back 4 5 = 15", "back 4 1 = STATE", "card 4 2 = 15");
        edges.run(BARE.times(2, "currency").then("ticket 1 5"), "back 0 2 = -5", "back 0 2 = 12", "back 0 1 = STATE",
                "back 0 2 = 12");
    }

    // ---- promise 8

    private void waits() {
        Script eight = Scenes.funded(1, 2, 4, 8, 16, 32, 64, 128);
        edges.promise(8, "WAITING for another (-1: for none): for whom it was (-5)");
        edges.run(eight, "waits 0 7 = -5", "of 0 5 = 7", "waits 0 6 = 7", "waits 0 6 = 6", "waits 0 -1 = 6",
                "waits 0 -1 = -5", "of 0 5 = -5", "waits 7 0 = -5", "worth 3 0 = 129", "waits 7 -1 = 0",
                "worth 3 0 = 1");
        edges.promise(8, "NONE: client, other, ahead of STATE");
        edges.refused(SOME, "waits -1 0 = NONE", "waits 7 0 = NONE", "waits 8 -1 = NONE", "waits -1 -1 = NONE",
                "waits MIN -1 = NONE", "waits MAX 0 = NONE", "waits 0 7 = NONE", "waits 0 -2 = NONE",
                "waits 0 MIN = NONE", "waits 0 MAX = NONE", "waits 7 7 = NONE", "waits 4 7 = NONE",
                "waits 4 -5 = NONE");
        edges.refused(FULL, "waits 8 0 = NONE", "waits 0 8 = NONE", "waits 8 8 = NONE", "waits -1 -1 = NONE");
        edges.refused(BARE, "waits 0 0 = NONE", "waits 0 -1 = NONE");
        edges.promise(8, "STATE: itself");
        edges.refused(SOME, "waits 0 0 = STATE", "waits 4 4 = STATE", "waits 6 6 = STATE");
        edges.promise(8, "STATE: one that is WAITING for it");
        edges.refused(SOME, "waits 2 4 = STATE");
        edges.promise(8, "STATE: or for one that is, and so on");
        Script chain = eight;
        for (int p = 0; p < 7; p++) {
            chain = chain.then("waits " + p + " " + (p + 1));
        }
        edges.refused(chain, "waits 7 0 = STATE", "waits 7 1 = STATE", "waits 7 6 = STATE", "waits 6 0 = STATE",
                "waits 5 0 = STATE", "waits 7 7 = STATE");
        edges.run(chain, "worth 3 7 = 255", "worth 3 6 = 127", "told 3 = 128", "waits 0 7 = 1", "worth 3 1 = 2",
                "waits 7 0 = STATE", "waits 3 -1 = 4", "waits 7 1 = -5", "told 3 = 8", "worth 3 3 = 255");
        edges.promise(8, "what it waited for itself does not count");
        edges.run(eight, "waits 0 1 = -5", "waits 0 2 = 1", "waits 1 0 = -5", "waits 2 1 = STATE", "waits 0 1 = STATE",
                "of 0 5 = 2");
    }

    // ---- promise 9

    private void row() {
        edges.promise(9, "the ROW becomes n (0 .. 9) for part 0 .. 3: what it was");
        edges.run(SOME, "row 6 0 9 = 2", "row 6 0 0 = 9", "row 6 0 0 = 0", "row 6 3 9 = 5", "row 6 3 0 = 9",
                "row 6 1 1 = 8", "row 6 2 1 = 4", "row 6 0 1 = 0");
        edges.promise(9, "NONE: client, part, ahead of BAD and STATE");
        edges.refused(SOME, "row 7 0 1 = NONE", "row -1 0 1 = NONE", "row MIN 0 1 = NONE", "row MAX 0 1 = NONE",
                "row 6 4 1 = NONE", "row 6 -1 1 = NONE", "row 6 MIN 1 = NONE", "row 6 MAX 1 = NONE",
                "row 6 4 10 = NONE", "row 0 4 1 = NONE", "row 0 -1 10 = NONE", "row 7 4 10 = NONE");
        edges.refused(FULL, "row 8 0 1 = NONE", "row 6 4 1 = NONE");
        edges.refused(BARE, "row 0 0 0 = NONE");
        edges.promise(9, "BAD, ahead of STATE");
        edges.refused(SOME, "row 6 0 -1 = BAD", "row 6 3 10 = BAD", "row 6 0 MIN = BAD", "row 6 0 MAX = BAD",
                "row 0 0 10 = BAD", "row 3 3 -1 = BAD");
        edges.promise(9, "STATE: another KIND");
        edges.refused(SOME, "row 0 0 1 = STATE", "row 1 0 1 = STATE", "row 2 0 1 = STATE", "row 3 0 1 = STATE",
                "row 3 3 9 = STATE", "row 4 0 1 = STATE", "row 5 0 0 = STATE");
        edges.refused(FULL, "row 7 0 0 = STATE");
        edges.promise(9, "for CLOCK modulo 4 being part");
        Script clocks = BARE.then("client 6 0", "client 1 0", "ticket 0 1", "give 0 1", "row 0 0 1", "row 0 1 2",
                "row 0 2 3", "row 0 3 4");
        edges.run(clocks, "of 0 7 = 9", "stride 1 = 1", "of 0 7 = 8", "stride 1 = 1", "of 0 7 = 7", "stride 1 = 1",
                "of 0 7 = 6", "stride 1 = 1", "of 0 7 = 9", "stride 1 = 1", "told 0 = 5", "of 0 7 = 8");
        edges.run(clocks.times(2, "stride 5"), "told 0 = 10", "of 0 7 = 2", "stride 1 = 1", "of 0 7 = 1");
    }

    // ---- promise 10

    private void of() {
        edges.promise(10, "what 0 .. 8");
        edges.run(Scenes.funded(7).then("client 1 9", "waits 1 0"), "of 0 0 = 0", "of 0 1 = 0", "of 0 2 = 0",
                "of 0 3 = 10", "of 0 4 = 0", "of 0 5 = -5", "of 0 6 = 1", "of 0 7 = 10", "of 0 8 = 14285714",
                "of 1 0 = 1", "of 1 1 = 9", "of 1 5 = 0", "of 1 6 = 0", "stride 1 = 0", "of 0 2 = 10",
                "of 0 4 = 14285714");
        edges.promise(10, "NONE: client, what");
        edges.refused(SOME, "of 0 -1 = NONE", "of 0 9 = NONE", "of 6 MIN = NONE", "of 6 MAX = NONE", "of -1 0 = NONE",
                "of 7 0 = NONE", "of 8 6 = NONE", "of MIN 8 = NONE", "of MAX 7 = NONE", "of 7 9 = NONE");
        edges.refused(FULL, "of 8 0 = NONE", "of 7 9 = NONE", "of -1 6 = NONE");
        edges.refused(BARE, "of 0 0 = NONE", "of 0 8 = NONE", "of -1 7 = NONE");
        edges.promise(10, "asked changes nothing");
        edges.asked(SOME, "of 0 0 = 0", "of 1 1 = 3", "of 4 5 = 2", "of 2 6 = 1", "of 5 6 = 0", "of 4 7 = 3");
    }

    private void ranUsedPass() {
        edges.promise(10, "USED is 10 at first, and what its latest QUANTUM used then, whatever its PARTS are now");
        edges.run(BARE.then("client 1 2", "ticket 0 1", "give 0 0"), "of 0 3 = 10", "of 0 7 = 3", "stride 1 = 0",
                "of 0 3 = 3");
        edges.run(BARE.then("client 3 0", "ticket 0 1", "give 0 0"), "stride 1 = 0", "of 0 3 = 10", "of 0 7 = 5",
                "stride 1 = 0", "of 0 3 = 5", "of 0 7 = 5", "stride 1 = 0", "told 0 = 20", "of 0 3 = 5", "of 0 7 = 10");
        edges.promise(10, "RAN and PASS as great as they may become");
        edges.run(Scenes.LATE, "of 0 2 = 99990", "of 0 4 = 960000000", "draw 0 1 = STATE");
        edges.run(Scenes.funded(1).then("stride 21"), "of 0 2 = 210", "of 0 4 = 2100000000", "stride 5 = 0",
                "of 0 2 = 260", "of 0 4 = 500000000");
    }

    private void strides() {
        edges.promise(10, "STRIDE is 100000000 by WEIGHT, cut");
        edges.run(Scenes.funded(1, 3, 9999), "of 0 8 = 100000000", "of 1 8 = 33333333", "of 2 8 = 10001");
        edges.run(BARE.then("client 0 0").times(24, "ticket 0 9999").then(each("give # 0", 24)),
                "worth 4 0 = 239976", "of 0 8 = 416");
        edges.promise(10, "STRIDE by the most WEIGHT there can be; 1 at least, which none comes down to");
        edges.run(BARE.then("client 4 0").times(24, "ticket 0 9999").then(each("give # 0", 24)).then("stride 1"),
                "worth 3 0 = 239976", "worth 4 0 = 2399760", "worth 5 0 = 2399760", "of 0 8 = 41", "stride 1 = 0",
                "of 0 4 = 457");
        edges.promise(10, "-5: WEIGHT is 0, as of one that holds nothing, or what is cut to nothing");
        edges.run(Scenes.funded(1).then("currency", "ticket 0 1", "ticket 1 1", "ticket 1 1", "back 1 1", "give 2 0",
                "client 0 0", "give 3 1", "give 0 -1"), "worth 3 0 = 0", "of 0 8 = -5", "of 0 6 = 0", "of 1 8 = -5",
                "amount 1 2 = 1", "of 0 8 = 100000000", "of 0 6 = 1", "of 1 6 = 1");
        edges.promise(10, "also of one that is not READY");
        edges.run(Scenes.funded(1, 4).then("waits 0 1"), "of 0 8 = 100000000", "of 1 8 = 20000000");
        edges.promise(10, "WEIGHT is 10 times SHARE by USED, cut");
        edges.run(BARE.then("client 1 2", "ticket 0 1", "give 0 0"), "worth 4 0 = 1", "stride 1 = 0", "of 0 3 = 3",
                "worth 4 0 = 3", "of 0 8 = 33333333", "amount 0 2 = 1", "worth 4 0 = 6", "amount 0 5 = 2",
                "worth 4 0 = 16");
    }

    private void ready() {
        Script four = BARE.then("client 0 0", "client 2 0", "client 5 0", "client 0 0", "ticket 0 1", "ticket 0 1",
                "ticket 0 1", "give 0 0", "give 1 1", "give 2 2");
        edges.promise(10, "READY: WEIGHT is above 0");
        edges.run(four, "of 0 6 = 1", "of 3 6 = 0", "give 0 -1 = 0", "of 0 6 = 0", "told 3 = 0");
        edges.promise(10, "READY: for a SERVER or a DAEMON, another is WAITING for it");
        edges.run(four, "of 1 6 = 0", "of 2 6 = 0", "told 3 = 1", "waits 3 1 = -5", "of 1 6 = 1", "of 2 6 = 0",
                "waits 3 2 = 1", "of 1 6 = 0", "of 2 6 = 1", "waits 3 -1 = 2", "told 3 = 1");
        edges.promise(10, "but with WEIGHT 0 it is not, though another is WAITING for it");
        edges.run(four, "give 1 -1 = 1", "waits 3 1 = -5", "of 1 6 = 0", "of 1 8 = -5", "waits 0 1 = -5",
                "of 1 6 = 1", "told 3 = 2");
        edges.promise(10, "READY: WAITING for none");
        edges.run(four, "waits 3 1 = -5", "waits 1 0 = -5", "of 1 6 = 0", "of 0 6 = 1", "worth 4 0 = 2",
                "told 3 = 1");
        edges.promise(10, "no other KIND needs one that is WAITING");
        edges.run(BARE.then(each("client # 0", 7)).then(each("ticket 0 1", 7)).then(each("give # #", 7)),
                "told 3 = 91");
    }

    private void parts() {
        edges.promise(10, "PARTS with v = 0: YIELDER 1; SHY half of that, 1 at least; DAEMON 10");
        edges.run(BARE.then(each("client # 0", 7)), "of 0 7 = 10", "of 1 7 = 1", "of 2 7 = 10", "of 3 7 = 10",
                "of 4 7 = 1", "of 5 7 = 10", "of 6 7 = 10");
        edges.promise(10, "PARTS with v = 9: YIELDER 10; SHY 5; DAEMON 1");
        edges.run(BARE.then(each("client # 9", 7)), "of 0 7 = 10", "of 1 7 = 10", "of 2 7 = 10", "of 3 7 = 10",
                "of 4 7 = 5", "of 5 7 = 1", "of 6 7 = 10");
        edges.promise(10, "PARTS of a SHY: half, cut");
        edges.run(BARE.then("client 4 1", "client 4 2", "client 4 3", "client 4 8"), "of 0 7 = 1", "of 1 7 = 1",
                "of 2 7 = 2", "of 3 7 = 4");
        Script clocks = BARE.then("client 1 8", "client 1 0", "client 3 0", "client 6 0", "ticket 0 1");
        edges.promise(10, "PARTS of a BURST and a TOLD: 5 less, if CLOCK by 10, cut, is odd: at 9, 10, 19, 20, 29, 30");
        edges.run(clocks, "give 0 0", "stride 1 = 0", "told 0 = 9", "of 2 7 = 10", "of 3 7 = 10", "give 0 1",
                "stride 1 = 1", "of 2 7 = 5", "of 3 7 = 5", "give 0 0", "stride 1 = 0", "told 0 = 19", "of 2 7 = 5",
                "of 3 7 = 5", "give 0 1", "stride 1 = 1", "of 2 7 = 10", "of 3 7 = 10", "give 0 0", "stride 1 = 0",
                "told 0 = 29", "of 2 7 = 10", "give 0 1", "stride 1 = 1", "of 2 7 = 5", "of 3 7 = 5");
        edges.promise(10, "PARTS of a TOLD: less its ROW, 1 at least");
        edges.run(BARE.then("client 6 0", "row 0 0 9", "row 0 2 4"), "of 0 7 = 1", "stride 1 = -5", "of 0 7 = 1",
                "row 0 2 5 = 4", "of 0 7 = 1", "row 0 2 9 = 5", "of 0 7 = 1", "row 0 2 3 = 9", "of 0 7 = 2",
                "row 0 2 0 = 3", "of 0 7 = 5");
    }

    // ---- promise 11

    private void card() {
        edges.promise(11, "what 0 .. 2, of TICKET 0 to the last");
        edges.run(SOME, "card 0 0 = 0", "card 0 1 = 1000", "card 0 2 = 0", "card 3 0 = 1", "card 3 1 = 30",
                "card 3 2 = 12", "card 10 0 = 0", "card 10 1 = 50", "card 10 2 = 2", "card 9 2 = -5");
        edges.run(FULL, "card 23 0 = 1", "card 23 1 = 1", "card 23 2 = -5", "card 12 2 = 15", "card 7 2 = 7",
                "card 14 0 = 2", "card 15 0 = 3", "card 16 0 = 4", "card 17 0 = 5");
        edges.promise(11, "NONE: ticket, what");
        edges.refused(SOME, "card -1 0 = NONE", "card 11 0 = NONE", "card 24 1 = NONE", "card MIN 2 = NONE",
                "card MAX 2 = NONE", "card 0 -1 = NONE", "card 0 3 = NONE", "card 0 MIN = NONE", "card 0 MAX = NONE",
                "card 11 3 = NONE");
        edges.refused(FULL, "card 24 0 = NONE", "card 23 3 = NONE");
        edges.refused(BARE, "card 0 0 = NONE");
        edges.promise(11, "asked changes nothing");
        edges.asked(SOME, "card 1 0 = 0", "card 1 1 = 500", "card 1 2 = 11");
    }

    // ---- promise 12

    private void worth() {
        edges.promise(12, "NO: no such what");
        edges.refused(SOME, "worth -1 0 = NO", "worth 6 0 = NO", "worth MIN 0 = NO", "worth MAX 0 = NO");
        edges.promise(12, "NO: no such TICKET, CURRENCY, CLIENT");
        edges.refused(SOME, "worth 0 -1 = NO", "worth 0 11 = NO", "worth 0 MIN = NO", "worth 0 MAX = NO",
                "worth 1 -1 = NO", "worth 1 3 = NO", "worth 1 MIN = NO", "worth 1 MAX = NO", "worth 2 -1 = NO",
                "worth 2 3 = NO", "worth 2 MAX = NO", "worth 3 -1 = NO", "worth 3 7 = NO", "worth 3 MIN = NO",
                "worth 4 -1 = NO", "worth 4 7 = NO", "worth 4 MAX = NO");
        edges.refused(FULL, "worth 0 24 = NO", "worth 1 6 = NO", "worth 2 6 = NO", "worth 3 8 = NO", "worth 4 8 = NO");
        edges.refused(BARE, "worth 0 0 = NO", "worth 1 1 = NO", "worth 2 1 = NO", "worth 3 0 = NO", "worth 4 0 = NO");
        edges.promise(12, "TOTAL: n does not matter; 0, if none is READY");
        edges.run(BARE, "worth 5 0 = 0", "worth 5 MIN = 0");
        edges.run(Scenes.funded(2, 3), "worth 5 0 = 5", "worth 5 -1 = 5", "worth 5 2 = 5", "worth 5 MIN = 5",
                "worth 5 MAX = 5", "waits 0 1 = -5", "worth 5 0 = 5", "give 1 -1 = 1", "worth 5 0 = 2",
                "give 0 -1 = 0", "worth 5 0 = 0");
        edges.promise(12, "asked changes nothing");
        edges.asked(SOME, "worth 0 0 = 1000", "worth 0 3 = 150", "worth 1 1 = 500", "worth 1 2 = 400",
                "worth 2 1 = 100", "worth 2 2 = 10", "worth 3 2 = 90");
    }

    private void worthEdges() {
        Script two = BARE.then("client 0 0", "currency", "ticket 0 100", "ticket 1 3", "ticket 1 4");
        edges.promise(12, "ISSUED: held by CLIENTS or backing, not what is neither");
        edges.run(two, "worth 2 0 = 0", "worth 2 1 = 0", "back 0 1 = -5", "worth 2 0 = 100", "worth 2 1 = 0",
                "give 1 0 = -5", "worth 2 1 = 3", "give 2 0 = -5", "worth 2 1 = 7", "currency = 2", "back 2 2 = 0",
                "worth 2 1 = 7", "give 2 -1 = 12", "worth 2 1 = 3");
        edges.promise(12, "WORTH: 0, if nothing is ISSUED");
        edges.run(two, "back 0 1 = -5", "worth 1 1 = 100", "worth 0 1 = 0", "worth 0 2 = 0");
        edges.promise(12, "WORTH: AMOUNT times VALUE by ISSUED, cut");
        edges.run(two, "back 0 1 = -5", "give 1 0 = -5", "give 2 0 = -5", "worth 0 1 = 42", "worth 0 2 = 57",
                "worth 3 0 = 99", "amount 0 1 = 100", "worth 0 1 = 0", "worth 0 2 = 0", "amount 0 2 = 1",
                "worth 0 2 = 1", "worth 0 1 = 0");
        edges.promise(12, "WORTH in BASE: its AMOUNT, held or not");
        edges.run(two, "worth 0 0 = 100", "give 0 0 = -5", "worth 0 0 = 100", "back 0 1 = 0", "worth 0 0 = 100");
        edges.promise(12, "VALUE of BASE: 0; of one that nothing backs: 0");
        edges.run(two, "worth 1 0 = 0", "worth 1 1 = 0", "give 1 0 = -5", "worth 0 1 = 0", "worth 3 0 = 0");
        edges.promise(12, "a WORTH that would leave an int");
        Script great = BARE.then("client 0 0", "currency").times(22, "ticket 0 9999").then(each("back # 1", 22))
                .then("ticket 1 1", "give 22 0", "ticket 1 9999");
        edges.run(great, "worth 1 1 = 219978", "worth 0 22 = 219978", "worth 0 23 = 2199560022", "worth 3 0 = 219978",
                "worth 5 0 = 219978");
        edges.promise(12, "what comes of the longest chain of CURRENCIES");
        edges.run(CHAIN.then("client 0 0", "give 5 0"), "worth 1 5 = 100", "worth 0 5 = 100", "worth 3 0 = 100",
                "amount 0 99 = 100", "worth 3 0 = 99", "give 0 -1 = 11", "worth 3 0 = 0", "worth 1 5 = 0");
    }

    private void shares() {
        edges.promise(12, "SHARE: SHARES of all that are WAITING for it, and so on");
        edges.run(Scenes.funded(1, 2, 4, 8), "waits 0 1 = -5", "waits 2 1 = -5", "waits 1 3 = -5", "worth 3 0 = 1",
                "worth 3 1 = 7", "worth 3 2 = 4", "worth 3 3 = 15", "worth 4 1 = 7", "worth 5 0 = 15", "told 3 = 8");
    }

    // ---- promise 13

    private void needs() {
        edges.promise(13, "those it HANGS ON: none, some, all");
        edges.run(CHAIN, "needs 0 0 = 0", "needs 1 0 = 1", "needs 2 0 = 3", "needs 3 0 = 7", "needs 4 0 = 15",
                "needs 5 0 = 31", "give 0 -1 = 11", "needs 5 0 = 30", "needs 1 0 = 0", "give 4 -1 = 15",
                "needs 5 0 = 0", "needs 4 0 = 14");
        edges.promise(13, "the CLIENTS that hold TICKETS in it, or in one that HANGS ON it: none, some, all");
        edges.run(CHAIN.times(8, "client 0 0"), "needs 0 1 = 0", "give 5 7 = -5", "needs 0 1 = 128",
                "needs 5 1 = 128", "ticket 0 1", "give 6 0 = -5", "needs 0 1 = 129", "needs 1 1 = 128",
                "ticket 5 1", "give 7 0 = -5", "needs 5 1 = 129", "give 2 3 = 13", "needs 2 1 = 8", "needs 3 1 = 129",
                "needs 0 1 = 9");
        edges.run(BARE.times(8, "client 0 0").times(8, "ticket 0 1").then(each("give # #", 8)), "needs 0 1 = 255");
        edges.promise(13, "several TICKETS of one CURRENCY, or of one CLIENT, are as one");
        edges.run(BARE.times(3, "currency").times(2, "ticket 0 1").times(2, "ticket 1 1").times(2, "ticket 2 1")
                .then("client 0 0", "client 0 0", "back 0 1", "back 1 1", "back 2 2", "back 3 2", "give 4 1",
                "give 5 1"), "needs 1 0 = 1", "needs 2 0 = 3", "needs 0 1 = 2", "needs 2 1 = 2", "needs 1 1 = 2",
                "order = 123", "ticket 2 1 = 6", "back 6 1 = STATE", "give 0 0 = 11", "give 1 0 = 11",
                "needs 0 1 = 1", "needs 1 0 = 0");
        edges.promise(13, "a TICKET that is neither held nor backing is of no account");
        edges.run(BARE.then("currency", "client 0 0", "ticket 1 1", "ticket 0 1"), "needs 1 0 = 0", "needs 1 1 = 0",
                "needs 0 1 = 0", "back 1 1 = -5", "needs 1 0 = 1", "needs 0 1 = 0");
        edges.promise(13, "NONE: currency, what");
        edges.refused(SOME, "needs -1 0 = NONE", "needs 3 0 = NONE", "needs 6 1 = NONE", "needs MIN 0 = NONE",
                "needs MAX 1 = NONE", "needs 0 -1 = NONE", "needs 0 2 = NONE", "needs 2 MIN = NONE",
                "needs 2 MAX = NONE", "needs 3 2 = NONE");
        edges.refused(FULL, "needs 6 0 = NONE", "needs 5 2 = NONE");
        edges.refused(BARE, "needs 1 0 = NONE", "needs 1 1 = NONE");
        edges.promise(13, "asked changes nothing");
        edges.asked(SOME, "needs 2 0 = 3", "needs 2 1 = 72", "needs 1 1 = 74");
    }

    // ---- promise 14

    private void order() {
        edges.promise(14, "BASE alone; all that hang on none");
        edges.run(BARE, "order = 0", "currency = 1", "order = 1", "currency = 2", "order = 12", "currency = 3",
                "order = 123", "currency = 4", "order = 1234", "currency = 5", "order = 12345");
        edges.promise(14, "none ahead of one that it HANGS ON: all the other way round");
        edges.run(BARE.times(5, "currency").then("ticket 5 1", "ticket 4 1", "ticket 3 1", "ticket 2 1", "back 0 4",
                "back 1 3", "back 2 2", "back 3 1"), "order = 54321", "give 3 -1 = 11", "order = 15432",
                "give 0 -1 = 14", "order = 14325");
        edges.run(CHAIN, "order = 12345");
        edges.promise(14, "of all such rows the first by numbers");
        edges.run(BARE.times(5, "currency").then("ticket 5 1", "back 0 1"), "order = 23451", "give 0 -1 = 11",
                "order = 12345", "back 0 4 = -5", "order = 12354");
        edges.run(BARE.times(2, "currency").times(2, "ticket 2 1").then("back 0 1", "back 1 1"), "order = 21",
                "give 0 -1 = 11", "order = 21", "give 1 -1 = 11", "order = 12");
        edges.promise(14, "asked changes nothing");
        edges.asked(SOME, "order = 12");
    }

    private void scenes() {
        edges.promise(37, "the halls of these tests are as full as they may be");
        edges.run(FULL, "count 0 = 6", "count 1 = 24", "count 2 = 8", "count 3 = 5", "count 4 = 10", "count 5 = 8",
                "count 6 = 100", "undo = 8");
    }

    public static void main(String[] args) {
        CurrencyEdgesTest test = new CurrencyEdgesTest();
        test.newObject();
        test.constants();
        test.currency();
        test.ticket();
        test.client();
        test.clientPass();
        test.clientRows();
        test.amount();
        test.give();
        test.back();
        test.backHanging();
        test.waits();
        test.row();
        test.of();
        test.ranUsedPass();
        test.strides();
        test.ready();
        test.parts();
        test.card();
        test.worth();
        test.worthEdges();
        test.shares();
        test.needs();
        test.order();
        test.scenes();
        test.edges.end(1, 14);
    }
}

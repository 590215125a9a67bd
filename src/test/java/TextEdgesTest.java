/** Promises 15 and 16 at their edges: each sentence that names one, what is just beyond it, and each refusal. */
public final class TextEdgesTest {
    private static final Script BARE = Scenes.BARE;
    private static final Script SOME = Scenes.SOME;
    private static final Script FULL = Scenes.FULL;
    /** Two CLIENTS and CURRENCIES 0 .. 2, which hold and back nothing; TICKETS come from number 0 on. */
    private static final Script READY = BARE.then("client 0 0", "client 0 0", "currency", "currency");

    private final Edges edges = new Edges("TextEdgesTest");

    // ---- promise 15

    private void feed() {
        edges.promise(15, "a sign 0 .. 127: how many THE TEXT has");
        edges.run(BARE, "feed 0 = 1", "feed 127 = 2", "feed 0 = 3", "count 6 = 3");
        edges.promise(15, "BAD");
        edges.refused(BARE, "feed -1 = BAD", "feed 128 = BAD", "feed MIN = BAD", "feed MAX = BAD");
        edges.refused(SOME, "feed -1 = BAD", "feed 128 = BAD", "feed -128 = BAD", "feed 255 = BAD", "feed 304 = BAD");
        edges.promise(15, "bytes, 100 at most; FULL, behind BAD");
        edges.run(BARE.times(98, "feed 65"), "count 6 = 98", "feed 65 = 99", "feed 65 = 100", "feed 65 = FULL",
                "count 6 = 100", "feed 128 = BAD", "feed 65 = FULL");
        edges.refused(FULL, "feed 0 = FULL", "feed 127 = FULL", "feed 48 = FULL", "feed -1 = BAD", "feed 128 = BAD");
        edges.promise(15, "a refused sign is no part of THE TEXT");
        edges.run(READY.text("p0<1"), "feed -1 = BAD", "feed 128 = BAD", "feed 99 = 5", "feed 176 = BAD",
                "feed 48 = 6", "fund = 1");
        edges.promise(15, "empty behind fund(), it begins anew");
        edges.run(BARE.times(100, "feed 65"), "fund = -10", "count 6 = 0", "feed 65 = 1", "count 6 = 1");
    }

    // ---- promise 16

    /** What fund() answers to a text, and how many TICKETS are there then. */
    private void funds(Script scene, String text, int answer, int tickets) {
        edges.run(scene.text(text), "fund = " + answer, "count 6 = 0", "count 1 = " + tickets);
    }

    private void fault(String text, int place) {
        Script fed = READY.text(text);
        edges.run(fed, "count 6 = " + text.length(), "fund = " + (-10 - place), "count 6 = 0", "count 1 = 0",
                "fund = -10");
        edges.same("a FAULT in " + text + " empties THE TEXT and changes nothing else", fed.then("fund"), READY, 0, 1);
    }

    /** No beginning of this is whole but those that end behind a FUND. */
    private void tooEarly() {
        edges.promise(16, "the end of THE TEXT, if it ends too early");
        String whole = "p0<1234c0+5c1;c1<06c0+7c9";
        for (int n = 0; n < whole.length(); n++) {
            String text = whole.substring(0, n);
            boolean ends = text.matches(".*<.*c[0-9]") && !text.matches(".*[;+]c?[0-9]*");
            if (!ends) {
                fault(text, n);
            }
        }
        fault("", 0);
        fault("p0<1c0;", 7);
        fault("p0<1c0+", 7);
        fault("p0<1c0+2", 8);
        fault("p0<1c0;c", 8);
    }

    private void faults() {
        edges.promise(16, "WHO: p or c, and a digit");
        fault("o0<1c0", 0);
        fault("q0<1c0", 0);
        fault("b0<1c0", 0);
        fault("d0<1c0", 0);
        fault("P0<1c0", 0);
        fault("0<1c0", 0);
        fault("p/<1c0", 1);
        fault("p:<1c0", 1);
        fault("pp0<1c0", 1);
        fault("p<1c0", 1);
        fault("p00<1c0", 2);
        edges.promise(16, "behind WHO: <");
        fault("p0;1c0", 2);
        fault("p0=1c0", 2);
        fault("p01c0", 2);
        edges.promise(16, "AMOUNT: 1 to 4 digits");
        fault("p0<c0", 3);
        fault("p0</c0", 3);
        fault("p0<:c0", 3);
        fault("p0<-1c0", 3);
        fault("p0<12345c0", 7);
        fault("p0<00001c0", 7);
        fault("p0<1234c0+12345c0", 14);
        fault("p0<1/c0", 4);
        fault("p0<1:c0", 4);
        fault("p0<1b0", 4);
        fault("p0<1d0", 4);
        edges.promise(16, "CURRENCY: c and a digit");
        fault("p0<1cc0", 5);
        fault("p0<1c/", 5);
        fault("p0<1c:", 5);
        fault("p0<1c00", 6);
        edges.promise(16, "; between CLAUSES, + between FUNDS");
        fault("p0<1c0:p0<1c0", 6);
        fault("p0<1c0<p0<1c0", 6);
        fault("p0<1c0*1c0", 6);
        fault("p0<1c0,1c0", 6);
        fault("p0<1c0+p0<1c0", 7);
        fault("p0<1c0;1c0", 7);
        fault("p0<1c0;;p0<1c0", 7);
        fault("p0<1c0++1c0", 7);
        fault(";p0<1c0", 0);
        fault("+1c0", 0);
        edges.promise(16, "no blanks");
        fault(" p0<1c0", 0);
        fault("p 0<1c0", 1);
        fault("p0 <1c0", 2);
        fault("p0< 1c0", 3);
        fault("p0<1 c0", 4);
        fault("p0<1c 0", 5);
        fault("p0<1c0 ", 6);
        edges.promise(16, "the place of the first byte with which none begins so, whatever comes behind");
        fault("p0<1c0;x1<1c0;y", 7);
        fault("x0<1c0;p0<1c0", 0);
    }

    /** Each byte of a whole text, made each other sign, against the document written a second time. */
    private void everySign() {
        edges.promise(16, "each sign at each place");
        String whole = "p0<1c0+24c1;c2<3456c0";
        for (int place = 0; place <= whole.length(); place++) {
            for (int sign = 0; sign < 128; sign++) {
                String rest = place < whole.length() ? whole.substring(place + 1) : "";
                Script fed = READY.text(whole.substring(0, place) + (char) sign + rest);
                TicketHall x = fed.hall();
                NaiveHall naive = fed.naive();
                String text = "sign " + sign + " at " + place;
                edges.is(text, x.fund(), naive.fund());
                edges.is(text, x.count(1), naive.count(1));
                edges.is(text, x.count(6), 0);
            }
        }
    }

    private void clauses() {
        String eight = "p0<1c0" + ";p0<1c0".repeat(7);
        edges.promise(16, "CLAUSES, 1 to 8");
        funds(READY, "p0<1c0", 1, 1);
        funds(READY, "p0<1c0;p1<2c0", 2, 2);
        funds(READY, eight, 8, 8);
        funds(READY, eight + "+1c0+1c0", 10, 10);
        fault(eight + ";", 55);
        fault(eight + ";p0<1c0", 55);
        fault(eight + ";x", 55);
        funds(READY, "p0<1c0;p0<1c0+1c0;p0<1c0+1c0;p0<1c0;p0<1c0;p0<1c0;p0<1c0;p0<1c0", 10, 10);
        fault("p0<1c0;p0<1c0+1c0;p0<1c0+1c0;p0<1c0;p0<1c0;p0<1c0;p0<1c0;p0<1c0;", 63);
        edges.promise(16, "more FUNDS behind a + each, as many as THE TEXT can hold");
        funds(READY, "p0<10c0+10c0" + "+1c0".repeat(22), 24, 24);
        edges.promise(16, "the end of THE TEXT of 100 bytes, if it ends too early");
        fault("p0<1c0" + "+1c0".repeat(23) + "+1", 100);
        fault("p0<10c0+10c0" + "+1c0".repeat(21) + "+1c ", 99);
    }

    private void tickets() {
        edges.promise(16, "of each FUND, one behind the other, a TICKET that WHO holds, or that backs WHO");
        edges.run(READY.text("p1<0007c0+9999c1;c2<1c0+20c1;p0<3c2"), "fund = 5", "card 0 0 = 0", "card 0 1 = 7",
                "card 0 2 = 1", "card 1 0 = 1", "card 1 1 = 9999", "card 1 2 = 1", "card 2 0 = 0", "card 2 1 = 1",
                "card 2 2 = 12", "card 3 0 = 1", "card 3 1 = 20", "card 3 2 = 12", "card 4 0 = 2", "card 4 1 = 3",
                "card 4 2 = 0", "count 1 = 5");
        edges.promise(16, "as ticket() refuses: a CURRENCY that is not there, none comes");
        funds(READY, "p0<1c2", 1, 1);
        funds(READY, "p0<1c3", 0, 0);
        funds(READY, "p0<1c9", 0, 0);
        edges.promise(16, "as ticket() refuses: an AMOUNT of 0, none comes");
        funds(READY, "p0<0c0+0000c0+00c1", 0, 0);
        funds(READY, "p0<1c0+9999c0", 2, 2);
        edges.promise(16, "as ticket() refuses: 24 are there, none comes");
        edges.run(READY.times(22, "ticket 0 1").text("p0<5c0+6c0+7c0;p1<8c0"), "fund = 2", "count 1 = 24",
                "card 22 1 = 5", "card 23 1 = 6", "card 23 2 = 0");
        edges.run(READY.times(24, "ticket 0 1").text("p0<5c0"), "fund = 0", "count 1 = 24", "card 23 1 = 1",
                "count 6 = 0");
        edges.run(FULL, "fund = 0", "count 1 = 24", "count 6 = 0");
        edges.promise(16, "as give() refuses: a CLIENT that is not there, none comes");
        funds(READY, "p1<1c0", 1, 1);
        funds(READY, "p2<1c0", 0, 0);
        funds(READY, "p9<1c0", 0, 0);
        edges.promise(16, "as back() refuses: a CURRENCY that is not there, or BASE, none comes");
        funds(READY, "c2<1c0", 1, 1);
        funds(READY, "c3<1c0", 0, 0);
        funds(READY, "c9<1c0", 0, 0);
        funds(READY, "c0<1c0", 0, 0);
        funds(READY, "c0<1c1", 0, 0);
        edges.promise(16, "as back() refuses: it would HANG ON itself, also by one that came just before");
        funds(READY, "c1<1c1", 0, 0);
        funds(READY, "c1<1c2;c2<1c1", 1, 1);
        funds(READY, "c2<1c1;c1<1c2", 1, 1);
        funds(READY.then("currency"), "c2<1c1;c3<1c2;c1<1c3;c1<1c2;c1<1c0", 3, 3);
        edges.promise(16, "where one is refused, the others come");
        edges.run(READY.text("p0<0c0+5c0;p7<1c0+2c0;c1<1c1+6c0"), "fund = 2", "card 0 1 = 5", "card 1 1 = 6",
                "card 1 2 = 11", "card 2 0 = NONE");
        edges.promise(16, "none that comes is left neither held nor backing, and nothing else changes");
        edges.same("funds none of which come", READY.text("p0<0c0;p2<1c0;c0<1c0;c1<1c1;c3<1c0;p0<1c3").then("fund"),
                READY, 0, 1);
        edges.promise(16, "what comes is as by ticket(), give(), back()");
        edges.same("funds as calls", READY.text("p1<5c0;c2<7c1+6c0").then("fund"), READY.then("ticket 0 5", "give 0 1",
                "ticket 1 7", "back 1 2", "ticket 0 6", "back 2 2"), 0, 1);
    }

    private void empty() {
        edges.promise(16, "THE TEXT is empty then, by a FAULT, too");
        edges.run(READY.text("p0<1c0"), "fund = 1", "count 6 = 0", "fund = -10", "count 1 = 1");
        edges.run(READY.text("p0<1c0x"), "fund = -16", "count 6 = 0", "fund = -10", "count 1 = 0");
        edges.run(READY.text("p0<"), "fund = -13", "feed 49 = 1", "feed 99 = 2", "feed 48 = 3", "fund = -10");
        edges.promise(16, "a FAULT: TICKETS of whole CLAUSES ahead of it do not come");
        edges.run(READY.text("p0<1c0;p0<2c0+3c0;c1<"), "fund = -31", "count 1 = 0");
        edges.run(BARE, "fund = -10", "fund = -10");
        edges.promise(16, "a FAULT changes nothing but THE TEXT, on halls that hold more, too");
        String[] faulty = {"x", "p0<5c0;c2<7c1x", "p0<5c0;c2<7c", "c1<3c0+"};
        for (String text : faulty) {
            edges.same("FAULT in " + text, Scenes.WORDLESS.text(text).then("fund"), Scenes.WORDLESS, 0, 1, 2, 3, 4, 5);
        }
        edges.same("the same of all there may be", FULL.then("fund"), FULL.then("fund", "feed 120", "fund"),
                0, 1, 2, 3, 4, 5);
    }

    public static void main(String[] args) {
        TextEdgesTest test = new TextEdgesTest();
        test.feed();
        test.tooEarly();
        test.faults();
        test.everySign();
        test.clauses();
        test.tickets();
        test.empty();
        test.edges.end(15, 16);
    }
}

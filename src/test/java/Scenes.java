/** Halls that several tests of edges begin with. */
final class Scenes {
    private Scenes() {
    }

    static final Script BARE = Script.of();

    /** Some of all, with room for more; THE IMAGE is another than what stands; THE TEXT is empty. */
    static final Script WORDLESS = Script.of("currency", "currency",
            "client 0 0", "client 1 3", "client 2 0", "client 3 0", "client 4 5", "client 5 4", "client 6 1",
            "ticket 0 1000", "ticket 0 500", "ticket 0 250", "ticket 1 30", "ticket 1 70", "ticket 2 9",
            "ticket 2 1", "ticket 0 40", "ticket 0 60", "ticket 0 80", "ticket 0 50",
            "give 0 0", "back 1 1", "back 2 2", "back 3 2", "give 4 1", "give 5 3", "give 6 6", "give 7 4",
            "give 8 5", "give 10 2", "waits 4 2",
            "row 6 0 2", "row 6 1 3", "row 6 2 4", "row 6 3 5",
            "see 1 2", "plan 0 0", "plan 3 2", "book 0 0", "book 1 3", "image",
            "draw 7 3", "stride 4", "see 0 1", "plan 1 4", "plan 2 4", "plan 0 0", "amount 9 81", "row 6 1 8",
            "book -1 0", "book 6 0", "book 0 1",
            "tape 0 0 3", "item 0 1 -128", "tape 1 1 4", "item 1 3 -32768", "tape 2 2 5", "item 2 4 MIN",
            "tape 3 3 12", "item 3 0 1000", "item 3 11 MOST", "tape 4 4 2", "item 4 1 1");

    /** The same, and THE TEXT is whole. */
    static final Script SOME = WORDLESS.text("p0<5c0;c2<7c1");

    /** As many of all as there may be. */
    static final Script FULL = Script.of("currency", "currency", "currency", "currency", "currency",
            "client 0 9", "client 1 9", "client 2 9", "client 3 9", "client 4 9", "client 5 9", "client 6 9",
            "client 1 0", "ticket 0 9999", "give 0 0", "ticket 0 800", "give 1 1", "ticket 0 700", "give 2 2",
            "ticket 0 600", "give 3 3", "ticket 0 500", "give 4 4", "ticket 0 400", "give 5 5",
            "ticket 0 300", "give 6 6", "ticket 0 200", "give 7 7",
            "ticket 0 5000", "back 8 1", "ticket 1 10", "back 9 2", "ticket 2 10", "back 10 3",
            "ticket 3 10", "back 11 4", "ticket 4 10", "back 12 5",
            "ticket 1 30", "give 13 1", "ticket 2 20", "give 14 2", "ticket 3 10", "give 15 3",
            "ticket 4 5", "give 16 4", "ticket 5 7", "give 17 7", "ticket 5 3", "give 18 6",
            "ticket 0 1", "back 19 5", "ticket 0 2", "back 20 5", "ticket 0 3", "back 21 4", "ticket 0 4",
            "back 22 3", "ticket 1 1", "waits 0 2", "waits 1 5", "row 6 0 9", "row 6 1 1", "row 6 2 9", "row 6 3 2",
            "see 2 1", "see 2 1", "see 2 1", "see 2 1", "plan 0 0", "plan 1 0", "plan 2 0", "plan 3 8", "image",
            "stride 6", "see 6 12", "plan 0 0", "plan 0 0", "plan 3 23", "plan 2 1", "plan 0 0", "plan 1 8",
            "book 0 0", "book 0 0", "book 0 0", "book 0 0", "book 1 0", "book 1 0", "book 1 0", "book 1 1",
            "tape 0 0 60", "tape 1 1 60", "tape 2 2 60", "tape 3 3 60", "tape 4 4 60", "tape 5 3 60",
            "item 0 59 1", "item 1 59 1", "item 2 59 1", "item 3 59 1", "item 4 59 1", "item 5 59 1")
            .text("p0<10c0+10c0" + "+1c0".repeat(22));

    /** CLIENT p has TICKET p in BASE of the p-th AMOUNT. */
    static Script funded(int... amounts) {
        Script made = BARE;
        for (int p = 0; p < amounts.length; p++) {
            made = made.then("client 0 0", "ticket 0 " + amounts[p], "give " + p + " " + p);
        }
        return made;
    }

    /** CLOCK is 99990, and one is READY. */
    static final Script LATE = funded(5).times(249, "stride 40").then("stride 39");

    /** CLOCK is 99989, and none is READY. */
    static final Script LATE_BY_9 = Script.of("client 1 8", "ticket 0 1", "give 0 0", "stride 1", "give 0 -1")
            .times(249, "stride 40").then("stride 38");

    /** CLOCK is 99999, and none is READY. */
    static final Script LATEST = LATE_BY_9.then("draw 0 1");

    /** CURRENCIES in a chain: the TICKET k in each k backs the next. */
    static final Script CHAIN = Script.of("currency", "currency", "currency", "currency", "currency",
            "ticket 0 100", "ticket 1 100", "ticket 2 100", "ticket 3 100", "ticket 4 100", "ticket 5 100",
            "back 0 1", "back 1 2", "back 2 3", "back 3 4", "back 4 5");
}

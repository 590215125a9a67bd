/** Promises 24 to 32 at their edges: each sentence that names one, what is just beyond it, and each refusal. */
public final class SeenEdgesTest {
    private static final Script BARE = Scenes.BARE;
    private static final Script SOME = Scenes.SOME;
    private static final Script FULL = Scenes.FULL;
    private static final Script LATE = Scenes.LATE;
    /**
     * TOTAL is 2. As 1103515245 and 12345 are both 1 modulo 4, the n-th number modulo 4 is SEED + n; bit 1 of it tells
     * whose the n-th QUANTUM is: CLIENT 0's, where SEED + n is 0 or 1 modulo 4.
     */
    private static final Script EVEN = Scenes.funded(1, 1);

    private final Edges edges = new Edges("SeenEdgesTest");

    /** What is answered is another test's; here it must change nothing. */
    private void keepsAll(Script scene, String... calls) {
        for (String call : calls) {
            edges.asked(scene, call + " = " + new Call(call).on(scene.hall()));
        }
    }

    // ---- promise 24

    private void see() {
        edges.promise(24, "the n-th QUANTUM from now (1 .. 12), CLIENT 0 to the last: how many there are");
        edges.run(SOME, "count 3 = 2", "see 0 1 = 3", "see 6 12 = 4", "count 3 = 4");
        edges.run(BARE.times(8, "client 0 0"), "see 7 12 = 1", "see 0 1 = 2", "see 7 1 = 3");
        edges.promise(24, "client -1: none then, 0, whatever the rest is");
        edges.run(SOME, "see -1 0 = 0", "count 3 = 0", "see -1 13 = 0", "see 0 1 = 1", "see -1 1 = 0", "seeds = MAX");
        edges.run(FULL, "see -1 MIN = 0", "count 3 = 0", "see -1 MAX = 0", "see 0 1 = 1");
        edges.run(BARE, "see -1 0 = 0", "see -1 5 = 0");
        edges.same("see none where none is", BARE.then("see -1 3"), BARE, 0, 1);
        edges.promise(24, "NONE, ahead of BAD");
        edges.refused(SOME, "see 7 1 = NONE", "see -2 1 = NONE", "see 8 1 = NONE", "see MIN 1 = NONE",
                "see MAX 1 = NONE", "see 7 0 = NONE", "see -2 13 = NONE");
        edges.refused(BARE, "see 0 1 = NONE", "see 0 0 = NONE", "see -2 0 = NONE");
        edges.promise(24, "BAD: n");
        edges.refused(SOME, "see 0 0 = BAD", "see 0 13 = BAD", "see 6 -1 = BAD", "see 0 MIN = BAD", "see 0 MAX = BAD");
        edges.promise(24, "5 rows at most; FULL, behind NONE and BAD");
        edges.run(EVEN, "see 0 1 = 1", "see 0 1 = 2", "see 0 1 = 3", "see 0 1 = 4", "see 0 1 = 5", "see 0 1 = FULL",
                "count 3 = 5", "see -1 0 = 0", "see 0 1 = 1");
        edges.refused(FULL, "see 0 1 = FULL", "see 7 12 = FULL", "see 8 1 = NONE", "see -2 1 = NONE", "see 0 0 = BAD",
                "see 0 13 = BAD");
        edges.promise(24, "each of the 5 rows counts");
        for (int k = 0; k < 5; k++) {
            edges.run(EVEN.times(k, "see 0 1").then("see 1 1").times(4 - k, "see 0 1"), "count 3 = 5", "seeds = 0");
        }
        edges.run(EVEN.then("see 0 1", "see 0 2", "see 1 3", "see 1 4", "see 0 5"), "seeds = 143165576");
    }

    // ---- promise 25

    private void seeds() {
        edges.promise(25, "nothing is SEEN: all of 0 .. 30");
        edges.run(BARE, "seeds = MAX");
        edges.run(EVEN, "seeds = MAX", "see 0 1 = 1", "see -1 0 = 0", "seeds = MAX");
        edges.promise(25, "SEED 0 to SEED 30, as bits");
        edges.run(EVEN.then("see 0 1"), "seeds = 429496729");
        edges.run(EVEN.then("see 1 1"), "seeds = 1717986918");
        edges.promise(25, "the first QUANTUM, the second, the 11-th, the 12-th");
        edges.run(EVEN.then("see 0 2"), "seeds = 1288490188");
        edges.run(EVEN.then("see 0 11"), "seeds = 1717986918");
        edges.run(EVEN.then("see 0 12"), "seeds = 858993459");
        edges.run(EVEN.then("see 1 12"), "seeds = 1288490188");
        edges.promise(25, "all of SEEN; told twice is told once; otherwise told is by none");
        edges.run(EVEN.then("see 0 1", "see 0 2"), "seeds = 143165576");
        edges.run(EVEN.then("see 0 12", "see 0 1"), "seeds = 286331153");
        edges.run(EVEN.then("see 0 1", "see 0 1"), "seeds = 429496729");
        edges.run(EVEN.then("see 0 1", "see 1 1"), "seeds = 0");
        edges.run(EVEN.then("see 1 7", "see 0 7"), "seeds = 0");
        edges.promise(25, "one alone runs by all; one that never runs is seen by none; none's QUANTUM is nobody's");
        edges.run(Scenes.funded(1).then("client 0 0"), "see 0 1 = 1", "see 0 12 = 2", "seeds = MAX", "see 1 12 = 3",
                "seeds = 0");
        edges.run(BARE.then("client 0 0"), "see 0 1 = 1", "seeds = 0");
        edges.promise(25, "from now: as all is when it is asked");
        edges.run(EVEN.then("see 0 1"), "seeds = 429496729", "stride 3 = 0", "seeds = 429496729", "draw 5 1 = 1",
                "seeds = 429496729", "give 1 -1 = 1", "seeds = MAX", "give 0 -1 = 0", "seeds = 0");
        edges.promise(25, "CLOCK beyond 99999, too");
        edges.run(LATE.then("see 0 12"), "seeds = MAX", "told 0 = 99990");
        edges.promise(25, "asked changes nothing");
        keepsAll(SOME, "seeds");
        keepsAll(FULL, "seeds");
        edges.asked(EVEN.then("see 0 1"), "seeds = 429496729");
    }

    // ---- promise 26

    /** Whose the n-th QUANTUM is of a YIELDER with v and 10, and of another with 10. */
    private static int whose(int seed, int v, int n) {
        int z = seed;
        int weight = 10;
        int winner = -5;
        for (int k = 0; k < n; k++) {
            z = z * 1103515245 + 12345;
            winner = (z >>> 1) % (weight + 10) < weight ? 0 : 1;
            if (winner == 0) {
                weight = 100 / (v + 1);
            }
        }
        return winner;
    }

    /** Numbers v found for each of 300 SEEDS, from which the n-th QUANTUM is a's, the m-th b's. */
    private void canBySeeds(int n, int a, int m, int b, int[] many, int[] least) {
        Script two = BARE.then("client 1 4", "client 0 0", "ticket 0 10", "ticket 0 10", "give 0 0", "give 1 1",
                "see " + a + " " + n, "see " + b + " " + m);
        for (int seed = -150; seed < 150; seed++) {
            int found = 0;
            int first = -5;
            for (int v = 9; v >= 0; v--) {
                if (whose(seed, v, n) == a && whose(seed, v, m) == b) {
                    found++;
                    first = v;
                }
            }
            many[found]++;
            least[first < 0 ? 10 : first]++;
            edges.run(two, "can 0 " + seed + " 0 = " + found, "can 0 " + seed + " 1 = " + first, "of 0 1 = 4");
        }
    }

    private void canByHand() {
        edges.promise(26, "how many numbers v (0 .. 9) there are; the least; -5: none");
        int[] many = new int[11];
        int[] least = new int[11];
        canBySeeds(1, 0, 2, 0, many, least);
        edges.holds("none and all", many[0] > 0 && many[10] > 0 && many[9] > 0);
        canBySeeds(2, 0, 4, 1, many, least);
        canBySeeds(1, 0, 12, 0, many, least);
        edges.holds("one alone", many[1] > 0);
        edges.holds("the least is 0, 1, 8, 9, none", least[0] > 0 && least[1] > 0 && least[8] > 0 && least[9] > 0
                && least[10] > 0);
    }

    private void can() {
        edges.promise(26, "nothing is SEEN: all ten, the least is 0, by any SEED");
        edges.run(EVEN, "can 0 0 0 = 10", "can 0 0 1 = 0", "can 1 MIN 0 = 10", "can 1 MAX 1 = 0", "can 0 -1 0 = 10",
                "can 0 31 0 = 10");
        edges.promise(26, "v does not matter to its KIND: all, or none");
        edges.run(EVEN.then("see 0 1"), "can 0 0 0 = 10", "can 0 0 1 = 0", "can 0 1 0 = 0", "can 0 1 1 = -5",
                "can 1 3 0 = 10", "can 1 2 0 = 0", "can 0 -1 0 = 10", "can 0 MAX 0 = 10", "can 0 MIN 1 = 0");
        edges.promise(26, "were that its v: the others keep theirs, and so does it");
        edges.run(BARE.then("client 1 9", "client 1 0", "ticket 0 1", "ticket 0 1", "give 0 0", "give 1 1", "see 0 1"),
                "can 0 0 0 = 10", "can 1 0 0 = 10", "of 0 1 = 9", "of 1 1 = 0", "of 0 7 = 10");
        edges.promise(26, "NONE: client, what");
        edges.refused(SOME, "can -1 0 0 = NONE", "can 7 0 0 = NONE", "can 8 0 1 = NONE", "can MIN 0 0 = NONE",
                "can MAX 0 1 = NONE", "can 0 0 -1 = NONE", "can 0 0 2 = NONE", "can 6 0 MIN = NONE",
                "can 6 0 MAX = NONE", "can 7 0 2 = NONE");
        edges.refused(FULL, "can 8 0 0 = NONE", "can 7 0 2 = NONE");
        edges.refused(BARE, "can 0 0 0 = NONE", "can 0 0 1 = NONE");
        edges.promise(26, "CLOCK beyond 99999, too");
        edges.run(LATE.then("see 0 12"), "can 0 4 0 = 10", "can 0 4 1 = 0", "told 0 = 99990");
        edges.promise(26, "asked changes nothing");
        keepsAll(SOME, "can 1 3 0", "can 6 9 1", "can 4 MIN 0");
        keepsAll(FULL, "can 7 9 0", "can 1 MAX 1");
    }

    // ---- promise 27

    private void odds() {
        edges.promise(27, "part 0 above, 1 below the line, in lowest terms");
        edges.run(Scenes.funded(2, 4, 9), "odds 0 0 = 2", "odds 0 1 = 15", "odds 1 0 = 4", "odds 1 1 = 15",
                "odds 2 0 = 3", "odds 2 1 = 5");
        edges.run(Scenes.funded(9999, 9999), "odds 0 0 = 1", "odds 0 1 = 2");
        edges.run(Scenes.funded(1, 9999), "odds 0 0 = 1", "odds 0 1 = 10000", "odds 1 0 = 9999", "odds 1 1 = 10000");
        edges.promise(27, "one alone: 1 by 1; one that is not READY: 0 by 1");
        edges.run(Scenes.funded(7).then("client 0 0"), "odds 0 0 = 1", "odds 0 1 = 1", "odds 1 0 = 0", "odds 1 1 = 1");
        edges.run(Scenes.funded(7, 8).then("waits 1 0"), "odds 1 0 = 0", "odds 1 1 = 1", "odds 0 0 = 1",
                "odds 0 1 = 1");
        edges.promise(27, "NO: TOTAL is 0");
        edges.refused(BARE.then("client 0 0"), "odds 0 0 = NO", "odds 0 1 = NO");
        edges.refused(BARE.then("client 5 0", "ticket 0 4", "give 0 0"), "odds 0 0 = NO", "odds 0 1 = NO");
        edges.promise(27, "NO: client, part");
        edges.refused(SOME, "odds -1 0 = NO", "odds 7 0 = NO", "odds 8 1 = NO", "odds MIN 0 = NO", "odds MAX 1 = NO",
                "odds 0 -1 = NO", "odds 0 2 = NO", "odds 6 MIN = NO", "odds 6 MAX = NO", "odds 4 2 = NO");
        edges.refused(FULL, "odds 8 0 = NO", "odds 7 2 = NO");
        edges.refused(BARE, "odds 0 0 = NO", "odds 0 1 = NO");
        edges.promise(27, "asked changes nothing");
        keepsAll(SOME, "odds 0 0", "odds 5 1");
        keepsAll(FULL, "odds 7 1");
    }

    // ---- promise 28

    private void mean() {
        edges.promise(28, "NO: there are none");
        edges.refused(BARE, "mean 0 = NO", "mean 1 = NO");
        edges.refused(BARE.then("stride 4"), "mean 0 = NO", "mean 1 = NO");
        edges.promise(28, "nothing RAN: 0 by 1");
        edges.run(BARE.then("client 0 0"), "mean 0 = 0", "mean 1 = 1", "stride 2 = -5", "mean 0 = 0", "mean 1 = 1");
        edges.run(BARE.times(8, "client 0 0"), "mean 0 = 0", "mean 1 = 1");
        edges.promise(28, "RAN of all by how many they are, one to eight, in lowest terms");
        edges.run(Scenes.funded(1), "stride 1 = 0", "mean 0 = 10", "mean 1 = 1", "client 0 0 = 1", "mean 0 = 5",
                "mean 1 = 1", "client 0 0 = 2", "mean 0 = 10", "mean 1 = 3", "client 0 0 = 3", "mean 0 = 5",
                "mean 1 = 2", "client 0 0 = 4", "client 0 0 = 5", "client 0 0 = 6", "mean 1 = 7", "client 0 0 = 7",
                "mean 0 = 5", "mean 1 = 4");
        edges.run(LATE, "mean 0 = 99990", "mean 1 = 1");
        edges.run(Scenes.funded(1, 1, 1).then("stride 2"), "mean 0 = 20", "mean 1 = 3");
        edges.promise(28, "NO: part");
        edges.refused(SOME, "mean -1 = NO", "mean 2 = NO", "mean MIN = NO", "mean MAX = NO");
        edges.promise(28, "asked changes nothing");
        keepsAll(SOME, "mean 0", "mean 1");
    }

    // ---- promise 29

    private void plan() {
        edges.promise(29, "what 0 .. 3: how many there are; by 0 n does not matter");
        edges.run(FULL.then("plan -1 0"), "plan 0 MIN = 1", "plan 0 MAX = 2", "plan 0 -1 = 3", "plan 0 24 = 4",
                "plan 1 0 = 5", "plan 1 23 = 6", "plan 2 0 = 7", "plan 2 7 = 8", "plan 3 0 = 9", "plan 3 23 = 10",
                "count 4 = 10");
        edges.run(BARE, "plan 0 0 = 1", "plan 0 99 = 2");
        edges.promise(29, "what -1: it is empty then, 0, whatever the rest is");
        edges.run(SOME, "count 4 = 5", "plan -1 0 = 0", "count 4 = 0", "plan -1 MIN = 0", "plan 0 0 = 1",
                "plan -1 MAX = 0", "count 4 = 0");
        edges.run(FULL, "plan -1 -1 = 0", "plan 0 0 = 1");
        edges.same("an empty PLAN made empty", BARE.then("plan -1 7"), BARE, 0, 1);
        edges.promise(29, "NONE: what");
        edges.refused(SOME, "plan -2 0 = NONE", "plan 4 0 = NONE", "plan MIN 0 = NONE", "plan MAX 0 = NONE");
        edges.promise(29, "NONE: ticket, by 1 and 3");
        edges.refused(SOME, "plan 1 -1 = NONE", "plan 1 11 = NONE", "plan 1 24 = NONE", "plan 1 MIN = NONE",
                "plan 1 MAX = NONE", "plan 3 -1 = NONE", "plan 3 11 = NONE", "plan 3 24 = NONE", "plan 3 MIN = NONE",
                "plan 3 MAX = NONE");
        edges.promise(29, "NONE: client, by 2");
        edges.refused(SOME, "plan 2 -1 = NONE", "plan 2 7 = NONE", "plan 2 8 = NONE", "plan 2 MIN = NONE",
                "plan 2 MAX = NONE");
        edges.refused(BARE, "plan 1 0 = NONE", "plan 2 0 = NONE", "plan 3 0 = NONE", "plan 4 0 = NONE");
        edges.run(BARE.then("client 0 0"), "plan 1 0 = NONE", "plan 3 0 = NONE", "plan 2 0 = 1");
        edges.run(BARE.then("ticket 0 1"), "plan 2 0 = NONE", "plan 1 0 = 1", "plan 3 0 = 2");
        edges.promise(29, "10 rows at most; FULL, behind NONE");
        edges.run(BARE.times(9, "plan 0 0"), "plan 0 0 = 10", "plan 0 0 = FULL", "count 4 = 10", "ends 0 = 100");
        edges.refused(FULL, "plan 0 0 = FULL", "plan 1 23 = FULL", "plan 2 7 = FULL", "plan 3 0 = FULL",
                "plan 1 24 = NONE", "plan 2 8 = NONE", "plan 3 -1 = NONE", "plan 4 0 = NONE", "plan -2 0 = NONE");
    }

    // ---- promise 30

    private void ends() {
        edges.promise(30, "what 0 CLOCK, 1 RAN of all, 2 NEXT, by an empty PLAN: as all is");
        edges.run(BARE, "ends 0 = 0", "ends 1 = 0", "ends 2 = -5");
        edges.run(EVEN.then("stride 3"), "ends 0 = 30", "ends 1 = 30", "ends 2 = 1");
        edges.promise(30, "10 rows, of QUANTA BY PASSES; of none's, too");
        edges.run(BARE.times(10, "plan 0 0"), "ends 0 = 100", "ends 1 = 0", "ends 2 = -5", "told 0 = 0");
        edges.run(EVEN.times(10, "plan 0 0"), "ends 0 = 100", "ends 1 = 100", "ends 2 = 0", "of 0 2 = 0", "told 0 = 0");
        edges.run(EVEN.times(9, "plan 0 0"), "ends 0 = 90", "ends 1 = 90", "ends 2 = 1");
        edges.promise(30, "CLOCK beyond 99999, too");
        edges.run(LATE.times(10, "plan 0 0"), "ends 0 = 100090", "ends 1 = 100090", "ends 2 = 0", "told 0 = 99990");
        edges.promise(30, "NEXT -5: none is READY then, of two that were");
        edges.run(EVEN.then("plan 1 0"), "ends 2 = 1", "plan 1 1 = 2", "ends 2 = -5", "plan 0 0 = 3", "ends 0 = 10",
                "ends 1 = 0", "told 2 = 0");
        edges.promise(30, "row 1: a TICKET that backs is so no more");
        edges.run(BARE.then("client 0 0", "currency", "ticket 0 5", "ticket 1 1", "back 0 1", "give 1 0"),
                "ends 2 = 0", "plan 1 0 = 1", "ends 2 = -5", "card 0 2 = 11", "told 2 = 0");
        edges.promise(30, "row 2: one that is WAITING is so no more; one that is not stays as it is");
        edges.run(EVEN.then("waits 0 1", "plan 2 1"), "ends 2 = 1", "plan 2 0 = 2", "ends 2 = 0", "told 2 = 1",
                "of 0 5 = 1");
        edges.promise(30, "row 1: a TICKET that is neither is not ISSUED");
        edges.run(BARE.then("client 0 0", "client 0 0", "currency", "ticket 0 20", "ticket 1 1", "ticket 1 1",
                "ticket 0 19", "back 0 1", "give 1 0", "give 2 1", "give 3 1", "plan 1 2", "plan 0 0", "plan 0 0"),
                "ends 2 = 0");
        edges.promise(30, "each row does its own, and nothing to a TICKET or a CLIENT of the same number");
        Script waiting = EVEN.then("waits 0 1");
        edges.run(waiting, "plan 1 0 = 1", "ends 2 = 1", "plan 3 0 = 2", "ends 2 = 1", "plan 0 0 = 3", "ends 2 = 1",
                "plan 2 1 = 4", "ends 2 = 1", "plan 2 0 = 5", "ends 2 = 1", "plan -1 0 = 0", "plan 2 0 = 1",
                "ends 2 = 0");
        edges.run(waiting, "plan 3 0 = 1", "ends 2 = 1");
        edges.run(Scenes.funded(1, 1, 1).then("give 0 2", "give 2 0", "waits 0 1", "plan 1 0"), "ends 2 = 1",
                "plan 2 0 = 2", "ends 2 = 0");
        // By 2 PASS of 0 ends at 100000000, by 4 at 75000000; that of 1 at 99999999.
        edges.run(Scenes.funded(2, 3).then("stride 1", "waits 0 1", "plan 2 0").times(4, "plan 0 0"), "ends 2 = 1",
                "amount 0 4 = 2", "ends 2 = 0");
        edges.promise(30, "NONE");
        edges.refused(SOME, "ends -1 = NONE", "ends 3 = NONE", "ends MIN = NONE", "ends MAX = NONE");
        edges.refused(BARE, "ends -1 = NONE", "ends 3 = NONE");
        edges.promise(30, "asked changes nothing");
        keepsAll(SOME, "ends 0", "ends 1", "ends 2");
        keepsAll(FULL, "ends 0", "ends 1", "ends 2");
        keepsAll(LATE.times(10, "plan 0 0"), "ends 0");
        keepsAll(Scenes.funded(1).then("stride 21").times(3, "plan 0 0"), "ends 2");
    }

    /** The other's STRIDE tells what the AMOUNT is: it is NEXT, if its PASS is the less. */
    private void endsTwice() {
        Script last = BARE.then("client 0 0", "client 0 0", "ticket 0 4999", "ticket 0 5000", "ticket 0 4998",
                "ticket 0 1", "give 0 0", "give 1 1", "give 2 1", "give 3 1", "plan 3 0", "plan 0 0", "plan 0 0");
        edges.promise(30, "row 3: AMOUNT is twice as much, 9999 at most");
        // 10002 by 9998; the other's is 10001 by 9999, 10002 by 9998.
        edges.run(last, "ends 2 = 1", "amount 3 9999 = 1", "ends 2 = 1");
        edges.run(last.then("give 3 -1"), "ends 2 = 0", "card 0 1 = 4999");
        // 5000 becomes 9999, 10001; the other's is 10000 by 10000, 10001 by 9999.
        edges.run(last.then("amount 0 5000"), "ends 2 = 0", "amount 2 4999 = 4998", "ends 2 = 1", "card 0 1 = 5000");
        edges.run(last.then("amount 0 5001"), "ends 2 = 0", "amount 2 4999 = 4998", "ends 2 = 1");
        edges.run(last.then("amount 0 9999"), "ends 2 = 0", "amount 2 4999 = 4998", "ends 2 = 1", "card 0 1 = 9999");
        edges.run(last.then("amount 0 1", "amount 1 2", "give 2 -1", "give 3 -1"), "ends 2 = 0", "amount 1 3 = 2",
                "ends 2 = 1");
    }

    // ---- promise 31

    private void book() {
        edges.promise(31, "RAN 0 or more, CLIENT 0 to the last: how many there are");
        edges.run(SOME, "count 5 = 2", "book 0 0 = 3", "book 6 MAX = 4", "book 6 1 = 5");
        edges.run(BARE.times(8, "client 0 0"), "book 7 0 = 1", "looked = -5", "book 7 MAX = 2", "looked = 1");
        edges.promise(31, "client -1: it is empty then, 0, whatever the rest is");
        edges.run(SOME, "book -1 0 = 0", "count 5 = 0", "book -1 -1 = 0", "book 0 0 = 1", "book -1 MIN = 0",
                "looked = -5");
        edges.run(FULL, "book -1 MAX = 0", "count 5 = 0", "book 0 0 = 1");
        edges.same("an empty BOOK made empty", BARE.then("book -1 -1"), BARE, 0, 1);
        edges.promise(31, "NONE, ahead of BAD");
        edges.refused(SOME, "book 7 0 = NONE", "book 8 0 = NONE", "book -2 0 = NONE", "book MIN 0 = NONE",
                "book MAX 0 = NONE", "book 7 -1 = NONE", "book -2 -1 = NONE");
        edges.refused(BARE, "book 0 0 = NONE", "book 0 -1 = NONE");
        edges.promise(31, "BAD: ran");
        edges.refused(SOME, "book 0 -1 = BAD", "book 6 -1 = BAD", "book 0 MIN = BAD");
        edges.promise(31, "8 at most; FULL, behind NONE and BAD");
        edges.run(EVEN.times(7, "book 0 0"), "count 5 = 7", "book 1 0 = 8", "book 1 0 = FULL", "count 5 = 8");
        edges.refused(FULL, "book 0 0 = FULL", "book 7 MAX = FULL", "book 8 0 = NONE", "book -2 0 = NONE",
                "book 0 -1 = BAD");
    }

    // ---- promise 32

    private void looked() {
        edges.promise(32, "-5: none; an empty BOOK, too");
        edges.run(BARE, "looked = -5");
        edges.run(EVEN.times(8, "book 0 0"), "looked = -5");
        edges.promise(32, "the number (from 0) of the first row by which it is otherwise: 0 to 7");
        for (int k = 0; k < 8; k++) {
            edges.run(EVEN.times(k, "book 0 0").times(8 - k, "book 1 1"), "looked = " + k);
            edges.run(EVEN.times(k, "book 0 0").then("book 0 10").times(7 - k, "book 1 0"), "looked = " + k,
                    "stride 1 = 0", "looked = " + (k == 0 ? -5 : 0));
        }
        edges.promise(32, "otherwise now: as RAN is when it is asked, less or more");
        edges.run(EVEN.then("book 0 10", "book 1 0"), "looked = 0", "stride 1 = 0", "looked = -5", "stride 1 = 1",
                "looked = 1", "book -1 0 = 0", "looked = -5", "book 1 9 = 1", "looked = 0", "book -1 0 = 0",
                "book 1 11 = 1", "looked = 0", "book -1 0 = 0", "book 1 10 = 1", "looked = -5");
        edges.run(LATE, "book 0 99990 = 1", "looked = -5", "book 0 MAX = 2", "looked = 1");
        edges.promise(32, "asked changes nothing");
        edges.asked(FULL, "looked = 7");
        keepsAll(SOME, "looked");
    }

    public static void main(String[] args) {
        SeenEdgesTest test = new SeenEdgesTest();
        test.see();
        test.seeds();
        test.canByHand();
        test.can();
        test.odds();
        test.mean();
        test.plan();
        test.ends();
        test.endsTwice();
        test.book();
        test.looked();
        test.edges.end(24, 32);
    }
}

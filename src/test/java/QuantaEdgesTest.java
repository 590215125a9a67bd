import java.util.TreeSet;

/** Promises 17 to 23 at their edges: each sentence that names one, what is just beyond it, and each refusal. */
public final class QuantaEdgesTest {
    private static final int MIN = Integer.MIN_VALUE;
    private static final int MAX = Integer.MAX_VALUE;
    private static final Script BARE = Scenes.BARE;
    private static final Script SOME = Scenes.SOME;
    private static final Script FULL = Scenes.FULL;
    private static final Script LATE = Scenes.LATE;
    private static final Script LATE_BY_9 = Scenes.LATE_BY_9;
    private static final Script LATEST = Scenes.LATEST;
    /** PASS of 0 is 2147482678, 969 below what an int holds; its WEIGHT is 99990 and the AMOUNT of TICKET 0. */
    private static final Script HIGH = Scenes.funded(1).then("stride 21", "amount 0 3", "stride 1", "amount 0 8",
            "stride 1", "amount 0 61", "stride 1", "amount 0 9999", "stride 1").times(10, "ticket 0 9999")
            .then("give 1 0", "give 2 0", "give 3 0", "give 4 0", "give 5 0", "give 6 0", "give 7 0", "give 8 0",
                    "give 9 0", "give 10 0");

    /** A TOLD, a YIELDER, a DAEMON that another waits for, a SHY, a BURST, a CLIENT; the first holds all. */
    private static final Script KINDS = BARE.then("client 6 0", "client 1 3", "client 5 4", "client 4 4", "client 3 0",
            "client 0 0", "client 2 0", "client 0 0", "ticket 0 1", "give 0 0", "row 0 0 1", "row 0 1 9", "row 0 2 3",
            "row 0 3 0", "waits 7 2");

    private final Edges edges = new Edges("QuantaEdgesTest");

    private static int behind(int z) {
        return z * 1103515245 + 12345;
    }

    // ---- promises 17 and 18

    private void howMany(int promise, String call) {
        edges.promise(promise, "n QUANTA (0 .. 40); -5: n is 0");
        edges.run(Scenes.funded(5), call + " 0 = -5", "told 0 = 0", "of 0 2 = 0", call + " 1 = 0", "told 0 = 10",
                call + " 40 = 0", "told 0 = 410", "of 0 2 = 410", call + " 0 = -5", "told 0 = 410");
        edges.promise(promise, "-5: none's; CLOCK is 10 more for each");
        edges.run(BARE, call + " 1 = -5", "told 0 = 10", call + " 40 = -5", "told 0 = 410", "told 1 = 0");
        edges.run(BARE.then("client 3 0", "client 6 1", "client 1 4"), call + " 3 = -5", "told 0 = 30", "of 0 2 = 0",
                "of 0 3 = 10", "of 2 2 = 0", "of 2 3 = 10", "of 0 4 = 0");
        edges.promise(promise, "BAD, ahead of STATE");
        edges.refused(SOME, call + " -1 = BAD", call + " 41 = BAD", call + " MIN = BAD", call + " MAX = BAD",
                call + " 429496730 = BAD");
        edges.refused(LATEST, call + " -1 = BAD", call + " 41 = BAD");
        edges.promise(promise, "STATE: CLOCK and 10 times n are above 99999; not where they are 99999");
        edges.run(LATE_BY_9, "told 0 = 99989", call + " 1 = -5", "told 0 = 99999", call + " 0 = -5");
        edges.refused(LATE_BY_9, call + " 2 = STATE", call + " 40 = STATE");
        edges.run(LATE, "told 0 = 99990", call + " 0 = -5");
        edges.refused(LATE, call + " 1 = STATE", call + " 40 = STATE");
        edges.run(LATEST, call + " 0 = -5", "told 0 = 99999");
        edges.refused(LATEST, call + " 1 = STATE", call + " 40 = STATE");
        Script forty = BARE.then("client 1 8", "ticket 0 1", "give 0 0", "stride 1", "give 0 -1")
                .times(248, "stride 40").then("stride 39");
        edges.run(forty, "told 0 = 99599", call + " 40 = -5", "told 0 = 99999");
        edges.run(forty.then("give 0 0", "stride 1", "give 0 -1"), "told 0 = 99608", call + " 40 = STATE",
                call + " 39 = -5", "told 0 = 99998");
        edges.promise(promise, "it is 10 times n that counts, though who is READY uses less");
        edges.run(LATE_BY_9.then("give 0 0"), call + " 2 = STATE", call + " 1 = 0", "told 0 = 99998",
                call + " 1 = STATE");
    }

    private void quantum(int promise, String call) {
        edges.promise(promise, "RAN, CLOCK: its PARTS more, USED: its PARTS");
        edges.run(BARE.then("client 4 0", "ticket 0 7", "give 0 0"), call + " 1 = 0", "of 0 2 = 1", "of 0 3 = 1",
                "told 0 = 1", "worth 4 0 = 70", call + " 40 = 0", "of 0 2 = 41", "told 0 = 41");
        edges.run(BARE.then("client 3 0", "ticket 0 7", "give 0 0"), call + " 1 = 0", "of 0 3 = 10", call + " 1 = 0",
                "of 0 3 = 5", "of 0 2 = 15", "told 0 = 15", call + " 1 = 0", "told 0 = 20", call + " 1 = 0",
                "told 0 = 30", "worth 4 0 = 7");
        edges.promise(promise, "PARTS as CLOCK is ahead of each QUANTUM");
        edges.run(BARE.then("client 6 0", "ticket 0 7", "give 0 0", "row 0 0 1", "row 0 1 9", "row 0 2 3", "row 0 3 0"),
                call + " 4 = 0", "told 0 = 16", "of 0 2 = 16", "of 0 3 = 4");
    }

    private void drawn() {
        edges.promise(17, "z: the last one times 1103515245, and 12345, wrapping; the first above (z >>> 1) modulo TOTAL");
        int[] odd = {MIN, MIN + 1, -1, MAX - 1, MAX};
        TreeSet<Integer> numbers = new TreeSet<>();
        int negative = 0;
        for (int k = 0; k < 105; k++) {
            int seed = k < 5 ? odd[k] : k - 50;
            int z = behind(seed);
            int number = (z >>> 1) % 10;
            numbers.add(number);
            negative += z < 0 ? 1 : 0;
            edges.run(Scenes.funded(2, 3, 5), "draw " + seed + " 1 = " + (number < 2 ? 0 : number < 5 ? 1 : 2));
        }
        edges.is("numbers", numbers.size(), 10);
        edges.holds("z above and below 0", negative > 9 && negative < 95);
        edges.promise(17, "by hand: behind SEED 0 comes 12345, and 6172 modulo 10 is 2");
        edges.run(Scenes.funded(2, 3, 5), "draw 0 1 = 1");
        edges.run(Scenes.funded(2, 1, 7), "draw 0 1 = 1");
        edges.run(Scenes.funded(3, 1, 6), "draw 0 1 = 0");
        edges.promise(17, "TOTAL of 1");
        edges.run(Scenes.funded(1), "draw -7 1 = 0", "draw 7 1 = 0", "draw MIN 1 = 0");
        edges.promise(17, "whose the latest is, each by the number behind the last one's");
        int z = 99;
        int[] ran = new int[3];
        for (int n = 1; n <= 40; n++) {
            z = behind(z);
            int number = (z >>> 1) % 10;
            int whose = number < 2 ? 0 : number < 5 ? 1 : 2;
            ran[whose] += 10;
            edges.run(Scenes.funded(2, 3, 5), "draw 99 " + n + " = " + whose, "of 0 2 = " + ran[0],
                    "of 1 2 = " + ran[1], "of 2 2 = " + ran[2], "told 0 = " + 10 * n, "of " + whose + " 4 = 0");
        }
        edges.promise(17, "each call begins with its own SEED");
        edges.same("two draws", Scenes.funded(2, 3, 5).then("draw 4 2", "draw 4 2"),
                Scenes.funded(2, 3, 5).then("draw 4 1").then("draw " + behind(4) + " 1", "draw 4 1")
                        .then("draw " + behind(4) + " 1"), 0, 1);
    }

    private void drawnOfReady() {
        edges.promise(17, "of the READY ones, by numbers");
        for (int seed = 0; seed < 40; seed++) {
            int number = (behind(seed) >>> 1) % 10;
            edges.run(Scenes.funded(3, 4, 4, 3).then("give 2 -1", "waits 2 1"),
                    "draw " + seed + " 1 = " + (number < 3 ? 0 : number < 7 ? 1 : 3));
            edges.run(Scenes.funded(3, 4, 3).then("waits 1 2"), "draw " + seed + " 1 = " + (number < 3 ? 0 : 2));
        }
        edges.promise(17, "WEIGHTS as they are ahead of each: who gave back early counts for more till it runs again");
        for (int seed = 0; seed < 40; seed++) {
            int first = (behind(seed) >>> 1) % 5;
            int second = (behind(behind(seed)) >>> 1) % (first < 2 ? 13 : 5);
            int whose = second < (first < 2 ? 10 : 2) ? 0 : 1;
            edges.run(BARE.then("client 1 1", "client 0 0", "ticket 0 2", "ticket 0 3", "give 0 0", "give 1 1"),
                    "draw " + seed + " 2 = " + whose);
        }
    }

    private void byPasses() {
        edges.promise(18, "the READY one with the least PASS, of several the first");
        edges.run(Scenes.funded(5, 5, 5), "stride 1 = 0", "stride 1 = 1", "stride 1 = 2", "stride 1 = 0",
                "stride 2 = 2", "of 0 4 = 40000000", "of 2 4 = 40000000");
        edges.run(Scenes.funded(5, 5, 5), "waits 0 2 = -5", "stride 1 = 1", "stride 1 = 2", "waits 0 -1 = 2",
                "stride 1 = 0");
        edges.promise(18, "PASS is STRIDE more, both as they are ahead");
        edges.run(BARE.then("client 1 0", "ticket 0 1", "give 0 0"), "stride 1 = 0", "of 0 4 = 100000000",
                "of 0 8 = 10000000", "stride 1 = 0", "of 0 4 = 110000000", "stride 2 = 0", "of 0 4 = 130000000");
        edges.promise(18, "of none: no PASS grows");
        edges.run(Scenes.funded(5).then("give 0 -1"), "stride 9 = -5", "of 0 4 = 0", "told 1 = 0", "told 0 = 90");
    }

    private void lowered() {
        edges.promise(18, "PASS may be 2147483647");
        edges.run(HIGH.then("amount 0 3209"), "of 0 4 = 2147482678", "of 0 8 = 969", "by 1 30 = MAX", "stride 1 = 0",
                "of 0 4 = MAX", "told 1 = 0");
        edges.promise(18, "if that would be above 2147483647, PASS of each is first less by the PASS of that one");
        edges.run(HIGH.then("amount 0 3102"), "of 0 4 = 2147482678", "of 0 8 = 970", "by 1 30 = 970", "stride 1 = 0",
                "of 0 4 = 970", "told 1 = 1");
        edges.run(HIGH.then("amount 0 3209", "stride 1"), "of 0 4 = MAX", "by 1 30 = 969", "stride 1 = 0",
                "of 0 4 = 969", "told 1 = 1");
        edges.promise(18, "(0 at least)");
        edges.run(Scenes.funded(1, 1).then("client 0 0", "give 1 -1", "stride 21", "client 0 0"), "of 0 4 = 2100000000",
                "of 1 4 = 0", "of 2 4 = 0", "of 3 4 = 0", "stride 1 = 0", "told 1 = 1", "of 0 4 = 100000000",
                "of 1 4 = 0", "of 2 4 = 0", "of 3 4 = 0");
        edges.promise(18, "PASS of each: one that is greater keeps what it is more, also if it is not READY");
        Script greater = Scenes.funded(1, 3).then("waits 0 1", "give 0 -1", "stride 40", "stride 24", "waits 0 -1",
                "give 0 0", "give 1 -1", "stride 21", "amount 0 2");
        edges.run(greater, "of 1 4 = 2133333312", "of 0 4 = 2100000000", "told 1 = 0", "stride 1 = 0", "told 1 = 1",
                "of 0 4 = 50000000", "of 1 4 = 33333312");
        edges.promise(18, "LOWERED is 1 more each time");
        edges.run(Scenes.funded(1), "stride 21 = 0", "told 1 = 0", "stride 1 = 0", "told 1 = 1", "stride 20 = 0",
                "of 0 4 = 2100000000", "told 1 = 1", "stride 1 = 0", "told 1 = 2", "of 0 4 = 100000000");
        edges.promise(18, "PASS of each of as many as there may be");
        edges.run(Scenes.funded(1, 1, 1, 1, 1, 1, 1, 1).times(4, "stride 40"), "of 7 4 = 2000000000", "stride 9 = 0",
                "told 1 = 1", "of 0 4 = 100000000", "of 1 4 = 0", "of 7 4 = 0", "stride 7 = 7", "told 1 = 1",
                "of 7 4 = 100000000");
        edges.promise(18, "who has run since is not put back behind who was lowered with it");
        edges.run(Scenes.funded(1, 1).then("stride 40"), "of 0 4 = 2000000000", "of 1 4 = 2000000000", "stride 2 = 1",
                "told 1 = 0", "stride 1 = 0", "told 1 = 1", "of 0 4 = 100000000", "of 1 4 = 0", "stride 1 = 1",
                "of 1 4 = 100000000", "told 1 = 1");
    }

    // ---- promise 19

    private void told() {
        edges.promise(19, "what 0 CLOCK, 1 LOWERED, 2 NEXT, 3 who is READY");
        edges.run(BARE, "told 0 = 0", "told 1 = 0", "told 2 = -5", "told 3 = 0");
        edges.run(Scenes.funded(1, 1, 1, 1, 1, 1, 1, 1), "told 3 = 255", "told 2 = 0", "stride 7 = 6", "told 2 = 7",
                "stride 1 = 7", "told 2 = 0", "give 7 -1 = 7", "told 3 = 127", "give 0 -1 = 0", "told 3 = 126",
                "told 2 = 1", "told 0 = 80");
        edges.run(LATEST, "told 0 = 99999", "told 2 = -5", "told 3 = 0");
        edges.run(Scenes.funded(1).then("stride 21"), "told 1 = 0", "stride 1 = 0", "told 1 = 1", "stride 20 = 0",
                "told 1 = 1", "stride 1 = 0", "told 1 = 2", "stride 20 = 0", "told 1 = 2", "stride 1 = 0",
                "told 1 = 3");
        edges.promise(19, "NONE");
        edges.refused(SOME, "told -1 = NONE", "told 4 = NONE", "told MIN = NONE", "told MAX = NONE");
        edges.refused(BARE, "told -1 = NONE", "told 4 = NONE");
        edges.promise(19, "asked changes nothing");
        edges.asked(SOME, "told 1 = 0", "told 3 = 79");
    }

    // ---- promise 20

    private void on() {
        Script two = Scenes.funded(2, 3);
        edges.promise(20, "ON n QUANTA (0 .. 40) DRAWN; -5: none's, or n is 0");
        edges.run(two, "on 0 0 0 = -5", "on 0 0 10 = 0", "on 0 0 11 = 0", "on 0 1 0 = 1", "on 0 1 10 = 0",
                "on 0 1 11 = 10", "told 0 = 0");
        edges.run(BARE, "on 1 40 0 = -5");
        edges.run(Scenes.funded(1), "on 1 40 0 = 0", "on 1 40 10 = 400", "on MIN 1 0 = 0", "on MAX 40 10 = 400");
        for (int n = 0; n <= 40; n++) {
            TicketHall x = two.hall();
            due(x, "on 77 " + n + " 10", two.then("draw 77 " + n).hall().of(0, 2));
            due(x, "on 77 " + n + " 11", two.then("draw 77 " + n).hall().of(1, 2));
            due(x, "on 77 " + n + " 0", two.hall().draw(77, n));
        }
        edges.promise(20, "each KIND uses the PARTS that are its own");
        edges.run(KINDS, "on 5 4 10 = 16", "on 5 4 11 = 0");
        edges.run(KINDS.then("give 0 1"), "on 5 4 10 = 0", "on 5 4 11 = 16");
        edges.run(KINDS.then("give 0 2"), "on 5 4 12 = 24");
        edges.run(KINDS.then("give 0 3"), "on 5 4 13 = 8");
        edges.run(KINDS.then("give 0 4"), "on 5 4 14 = 30");
        edges.run(KINDS.then("give 0 5"), "on 5 4 15 = 40", "give 0 6 = 5", "on 5 4 16 = 0", "on 5 4 0 = -5");
        edges.promise(20, "RAN: all that it ran, not by these alone");
        edges.run(Scenes.funded(1).then("stride 3"), "on 5 2 10 = 50", "on 5 0 10 = 30");
        edges.promise(20, "NONE: what, ahead of BAD");
        edges.refused(SOME, "on 1 2 -1 = NONE", "on 1 2 1 = NONE", "on 1 2 9 = NONE", "on 1 2 17 = NONE",
                "on 1 2 30 = NONE", "on 1 2 MIN = NONE", "on 1 2 MAX = NONE", "on 1 41 17 = NONE", "on 1 -1 1 = NONE",
                "on 1 2 -2147483639 = NONE");
        edges.refused(FULL, "on 1 2 18 = NONE", "on 1 41 9 = NONE");
        edges.refused(BARE, "on 1 2 10 = NONE", "on 1 0 10 = NONE");
        edges.promise(20, "BAD: n");
        edges.refused(SOME, "on 1 -1 0 = BAD", "on 1 41 0 = BAD", "on 1 -1 16 = BAD", "on 1 41 10 = BAD",
                "on 1 MIN 0 = BAD", "on 1 MAX 0 = BAD");
        edges.refused(LATEST, "on 1 41 0 = BAD");
        edges.promise(20, "CLOCK beyond 99999, too");
        edges.run(LATE, "on 1 40 0 = 0", "on 1 40 10 = 100390", "on 1 1 10 = 100000", "told 0 = 99990");
        edges.run(LATEST, "on 1 40 0 = -5", "on 1 1 0 = -5");
        edges.promise(20, "asked changes nothing");
        edges.asked(SOME, "on 7 0 0 = -5", "on 7 0 10 = " + SOME.hall().of(0, 2));
        keepsAll(SOME, "on 7 40 #", 0, 10, 16);
        keepsAll(FULL, "on -3 40 #", 0, 10, 17);
        keepsAll(LATE, "on 7 40 #", 0, 10);
    }

    private void due(TicketHall x, String call, long want) {
        edges.is(call, new Call(call).on(x), want);
    }

    /** What is answered is another test's; here it must change nothing. */
    private void keepsAll(Script scene, String call, int... whats) {
        for (int what : whats) {
            String asked = call.replace("#", "" + what);
            edges.asked(scene, asked + " = " + new Call(asked).on(scene.hall()));
        }
    }

    // ---- promise 21

    private void by() {
        Script two = Scenes.funded(100, 50);
        edges.promise(21, "ON n QUANTA (0 .. 40) BY PASSES; -5: none's, or n is 0");
        edges.run(two, "by 0 0 = -5", "by 0 1 = 0", "by 0 10 = 0", "by 0 30 = 0", "by 1 0 = 0", "by 1 1 = 1",
                "by 1 10 = 10", "by 1 30 = 1000000", "by 2 0 = 1", "by 2 1 = 0", "by 2 31 = 2000000", "by 3 0 = 0",
                "by 40 0 = 0", "by 40 10 = 270", "by 40 11 = 130", "by 40 30 = 27000000", "by 40 31 = 26000000",
                "told 0 = 0", "of 0 4 = 0");
        edges.run(BARE, "by 40 0 = -5", "by 40 1 = -5", "by 0 1 = -5");
        edges.promise(21, "each KIND uses the PARTS that are its own, and has its own STRIDE by these");
        edges.run(KINDS, "by 4 10 = 16", "by 4 30 = 230000000");
        edges.run(KINDS.then("give 0 1"), "by 4 11 = 16", "by 4 31 = 250000000");
        edges.run(KINDS.then("give 0 2"), "by 4 12 = 24", "by 4 32 = 400000000");
        edges.run(KINDS.then("give 0 3"), "by 4 13 = 8", "by 4 33 = 160000000");
        edges.run(KINDS.then("give 0 4"), "by 4 14 = 30", "by 4 34 = 300000000");
        edges.run(KINDS.then("give 0 5"), "by 4 15 = 40", "by 4 35 = 400000000", "give 0 6 = 5", "by 4 36 = 0",
                "by 4 16 = 0", "by 4 1 = -5");
        edges.promise(21, "PASSES are lowered on the way, LOWERED is as it was");
        edges.run(Scenes.funded(1), "by 21 30 = 2100000000", "by 22 30 = 100000000", "by 40 30 = 1900000000",
                "told 1 = 0", "of 0 4 = 0");
        edges.promise(21, "NONE: what, ahead of BAD");
        edges.refused(SOME, "by 2 -1 = NONE", "by 2 2 = NONE", "by 2 9 = NONE", "by 2 17 = NONE", "by 2 29 = NONE",
                "by 2 37 = NONE", "by 2 MIN = NONE", "by 2 MAX = NONE", "by 41 2 = NONE", "by -1 37 = NONE",
                "by 2 -2147483639 = NONE", "by 2 -2147483619 = NONE");
        edges.refused(FULL, "by 2 18 = NONE", "by 2 38 = NONE", "by 2 29 = NONE");
        edges.refused(BARE, "by 2 10 = NONE", "by 2 30 = NONE");
        edges.promise(21, "BAD: n");
        edges.refused(SOME, "by -1 0 = BAD", "by 41 0 = BAD", "by -1 1 = BAD", "by 41 16 = BAD", "by 41 36 = BAD",
                "by MIN 0 = BAD", "by MAX 1 = BAD");
        edges.refused(LATEST, "by 41 0 = BAD");
        edges.promise(21, "CLOCK beyond 99999, too");
        edges.run(LATE, "by 40 0 = 0", "by 40 10 = 100390", "by 40 1 = 0", "told 0 = 99990");
        edges.run(LATEST, "by 40 0 = -5", "by 40 1 = -5");
        edges.promise(21, "asked changes nothing");
        keepsAll(SOME, "by 40 #", 0, 1, 10, 16, 30, 36);
        keepsAll(FULL, "by 40 #", 0, 1, 10, 17, 30, 37);
        keepsAll(LATE, "by 40 #", 0, 1, 10, 30);
        keepsAll(Scenes.funded(1).then("stride 21"), "by 40 #", 0, 30);
    }

    // ---- promise 22

    private void lag() {
        Script two = Scenes.funded(100, 50);
        edges.promise(22, "n (0 .. 40), part 0 above, 1 below the line, in lowest terms");
        edges.run(two, "lag 0 1 0 = 10", "lag 0 1 1 = 3", "lag 0 4 0 = 10", "lag 0 4 1 = 3", "lag 0 40 0 = 10",
                "lag 0 40 1 = 3", "lag 0 2 0 = -10", "lag 0 2 1 = 3");
        edges.promise(22, "may be below 0; below the line it is above 0");
        edges.run(two, "lag 1 1 0 = -10", "lag 1 1 1 = 3", "lag 1 40 0 = -10", "lag 1 40 1 = 3");
        edges.promise(22, "nothing behind: 0 by 1");
        edges.run(two, "lag 0 0 0 = 0", "lag 0 0 1 = 1", "lag 1 3 0 = 0", "lag 1 3 1 = 1", "lag 1 39 0 = 0");
        edges.run(Scenes.funded(7), "lag 0 40 0 = 0", "lag 0 40 1 = 1");
        edges.promise(22, "TOTAL of 1");
        edges.run(Scenes.funded(1), "lag 0 40 0 = 0", "lag 0 40 1 = 1", "lag 0 0 0 = 0");
        edges.promise(22, "a whole number of PARTS: by 1");
        edges.run(Scenes.funded(1, 1), "lag 0 1 0 = 5", "lag 0 1 1 = 1", "lag 1 1 0 = -5", "lag 1 1 1 = 1");
        edges.promise(22, "great WEIGHTS: 39 of 49 PARTS, less 230 by 231 of 49");
        Script great = BARE.then("client 1 0", "client 0 0").times(24, "ticket 0 9999").then("give 23 1");
        for (int t = 0; t < 23; t++) {
            great = great.then("give " + t + " 0");
        }
        edges.run(great.then("stride 1"), "worth 5 0 = 2309769", "lag 0 40 0 = -323", "lag 0 40 1 = 33",
                "lag 1 40 0 = 323", "lag 1 40 1 = 33");
        edges.promise(22, "PARTS by these QUANTA alone; WEIGHT, TOTAL as both are now");
        edges.run(two.then("stride 1"), "lag 0 0 0 = 0", "lag 0 1 0 = -20", "lag 0 1 1 = 3", "lag 1 1 0 = 20");
        edges.run(BARE.then("client 1 0", "client 0 0", "ticket 0 10", "ticket 0 10", "give 0 0", "give 1 1"),
                "lag 0 2 0 = -9", "lag 0 2 1 = 2", "lag 1 2 0 = 9", "lag 1 2 1 = 2");
        edges.promise(22, "also of one that is not READY: nothing of what its WEIGHT asks");
        edges.run(two.then("waits 1 0"), "lag 1 1 0 = -10", "lag 1 1 1 = 3", "lag 0 1 0 = 0", "lag 0 1 1 = 1");
        edges.run(two.then("give 1 -1"), "lag 1 5 0 = 0", "lag 1 5 1 = 1");
        edges.promise(22, "CLOCK beyond 99999, too");
        edges.run(LATE.then("client 0 0", "ticket 0 5", "give 1 1"), "lag 0 40 0 = 0", "lag 0 1 0 = 5",
                "lag 1 1 0 = -5", "told 0 = 99990");
        edges.promise(22, "NO: client, n, part");
        edges.refused(SOME, "lag -1 1 0 = NO", "lag 7 1 0 = NO", "lag MIN 1 1 = NO", "lag MAX 1 0 = NO",
                "lag 0 -1 0 = NO", "lag 0 41 1 = NO", "lag 0 MIN 0 = NO", "lag 0 MAX 0 = NO", "lag 0 1 -1 = NO",
                "lag 0 1 2 = NO", "lag 0 1 MIN = NO", "lag 0 1 MAX = NO");
        edges.refused(FULL, "lag 8 1 0 = NO", "lag 7 41 0 = NO");
        edges.promise(22, "NO: TOTAL is 0");
        edges.refused(BARE, "lag 0 0 0 = NO", "lag 0 1 1 = NO");
        edges.refused(two.then("give 0 -1", "give 1 -1"), "lag 0 0 0 = NO", "lag 0 1 0 = NO", "lag 1 40 1 = NO");
        edges.refused(BARE.then("client 2 0", "ticket 0 5", "give 0 0"), "lag 0 1 0 = NO", "lag 0 1 1 = NO");
        edges.promise(22, "asked changes nothing");
        keepsAll(SOME, "lag # 40 0", 0, 3, 6);
        keepsAll(FULL, "lag # 40 1", 0, 7);
        keepsAll(LATE, "lag # 40 0", 0);
    }

    // ---- promise 23

    private void loss() {
        edges.promise(23, "LOSS; -5: there are none");
        edges.run(BARE.then("client 0 0"), "best 0 0 = -5", "ticket 0 1 = 0", "best 0 0 = 0");
        edges.promise(23, "of several the first");
        edges.run(Scenes.funded(5, 5).then("give 1 0"), "best 0 0 = 0", "best 1 0 = 0", "amount 1 6 = 5",
                "best 0 0 = 1", "best 1 0 = 0");
        edges.promise(23, "TICKET 0 to the last");
        edges.run(BARE.then("client 0 0").times(24, "ticket 0 1").then("give 23 0"), "best 0 0 = 23",
                "give 0 0 = -5", "best 0 0 = 0");
        edges.promise(23, "one that backs; one that another lends");
        edges.run(BARE.then("client 0 0", "client 0 0", "currency", "ticket 1 1", "ticket 0 9", "ticket 0 8",
                "back 1 1", "give 0 0", "give 2 1"), "best 0 0 = 0", "best 1 0 = 2", "waits 1 0 = -5",
                "best 0 0 = 0", "amount 2 10 = 8", "best 0 0 = 2", "give 0 -1 = 0", "best 0 0 = 2");
        edges.promise(23, "were it neither held nor backing, it would not be ISSUED");
        edges.run(BARE.then("client 0 0", "currency", "ticket 0 15", "ticket 0 15", "ticket 1 10", "ticket 1 20",
                "ticket 0 16", "back 0 1", "back 1 1", "give 2 0", "give 3 0", "give 4 0"), "worth 4 0 = 46",
                "best 0 0 = 4", "amount 4 15 = 16", "best 0 0 = 0", "give 0 -1 = 11", "best 0 0 = 1");
    }

    private void lossOfOther() {
        edges.promise(23, "WEIGHT, of one that is not READY, too");
        edges.run(Scenes.funded(5, 5, 5).then("waits 1 0"), "best 1 0 = 1", "best 2 0 = 2", "best 0 0 = 0");
    }

    private void raise() {
        edges.promise(23, "RAISE: the least AMOUNT 1 .. 200");
        edges.run(Scenes.funded(7, 1), "best 0 10 = 1", "best 1 11 = 7");
        edges.run(Scenes.funded(7, 200), "best 0 10 = 200", "best 0 11 = 1");
        edges.run(Scenes.funded(7, 199), "best 0 10 = 199");
        edges.promise(23, "-5: none");
        edges.run(Scenes.funded(7, 201), "best 0 10 = -5", "card 0 1 = 7");
        edges.run(Scenes.funded(500, 300), "best 0 10 = -5", "best 0 11 = 1");
        edges.promise(23, "twice its WEIGHT is TOTAL or more");
        edges.run(Scenes.funded(1, 10, 11), "best 0 10 = 21", "best 0 11 = -5", "amount 0 12 = 1", "best 0 11 = 1");
        edges.run(Scenes.funded(1, 1).then("client 0 0", "ticket 0 7", "give 2 1"), "best 0 10 = 8");
        edges.promise(23, "by a TICKET that is not its own");
        edges.run(Scenes.funded(30, 31, 50), "best 0 11 = -5", "best 0 12 = -5", "amount 1 10 = 31", "best 0 12 = 1");
        edges.promise(23, "by one that backs what it holds");
        edges.run(BARE.then("client 0 0", "client 0 0", "currency", "ticket 1 3", "ticket 0 9", "ticket 0 40",
                "back 1 1", "give 0 0", "give 2 1"), "best 0 11 = 40", "best 0 10 = -5", "best 1 11 = 1");
        edges.promise(23, "it would be READY: not WAITING, WEIGHT above 0, a SERVER with another WAITING for it");
        edges.run(Scenes.funded(5, 1).then("waits 0 1"), "best 0 10 = -5", "best 1 10 = 1");
        edges.run(BARE.then("client 0 0", "ticket 0 1"), "best 0 10 = -5", "give 0 0 = -5", "best 0 10 = 1");
        edges.run(BARE.then("client 2 0", "client 0 0", "ticket 0 1", "give 0 0"), "best 0 10 = -5",
                "waits 1 0 = -5", "best 0 10 = 1");
        edges.promise(23, "by one that is neither held nor backing: 1, or none");
        edges.run(Scenes.funded(5, 4).then("ticket 0 9"), "best 0 12 = 1", "best 1 12 = -5");
    }

    private void best() {
        edges.promise(23, "NONE: client, what");
        edges.refused(SOME, "best -1 0 = NONE", "best 7 0 = NONE", "best MIN 0 = NONE", "best MAX 10 = NONE",
                "best 0 -1 = NONE", "best 0 1 = NONE", "best 0 9 = NONE", "best 0 21 = NONE", "best 0 34 = NONE",
                "best 0 MIN = NONE", "best 0 MAX = NONE", "best 7 9 = NONE", "best 0 -2147483639 = NONE");
        edges.refused(FULL, "best 8 0 = NONE", "best 0 34 = NONE", "best 7 9 = NONE");
        edges.refused(BARE, "best 0 0 = NONE", "best 0 10 = NONE");
        edges.refused(BARE.then("client 0 0"), "best 0 10 = NONE", "best 0 9 = NONE");
        edges.promise(23, "asked changes nothing");
        edges.asked(SOME, "best 0 0 = 0", "best 0 10 = -5", "best 2 20 = -5");
        keepsAll(SOME, "best 3 #", 0, 10, 11, 14, 20);
        keepsAll(FULL, "best 6 #", 0, 10, 33);
    }

    public static void main(String[] args) {
        QuantaEdgesTest test = new QuantaEdgesTest();
        test.howMany(17, "draw 5");
        test.howMany(18, "stride");
        test.quantum(17, "draw -5");
        test.quantum(18, "stride");
        test.drawn();
        test.drawnOfReady();
        test.byPasses();
        test.lowered();
        test.told();
        test.on();
        test.by();
        test.lag();
        test.loss();
        test.lossOfOther();
        test.raise();
        test.best();
        test.edges.end(17, 23);
    }
}

import java.util.ArrayList;
import java.util.List;

/** Promises 33 to 41 at their edges: each sentence that names one, what is just beyond it, and each refusal. */
public final class TapeEdgesTest {
    private static final Script BARE = Scenes.BARE;
    private static final Script SOME = Scenes.SOME;
    private static final Script FULL = Scenes.FULL;
    private static final Script LATE = Scenes.LATE;

    private final Edges edges = new Edges("TapeEdgesTest");

    // ---- promise 33

    /** 24 TICKETS in BASE, worth 1 to 24; TAPE 2 holds 60 longs, the last 24 of which are these. */
    private static Script judged() {
        Script made = BARE.then("tape 2 3 60");
        for (int t = 0; t < 24; t++) {
            made = made.then("ticket 0 " + (t + 1), "item 2 " + (36 + t) + " " + (t + 1));
        }
        return made;
    }

    private void judge() {
        Script all = judged();
        edges.promise(33, "-5: none is otherwise, though the row ends just there");
        edges.run(all, "judge 2 36 = -5");
        edges.run(all.then("tape 2 3 24").then("item 2 23 24"), "judge 2 0 = 0");
        edges.promise(33, "the first that is otherwise, counted from 0 from that place on: 0 to 23");
        for (int t = 0; t < 24; t++) {
            edges.run(all.then("item 2 " + (36 + t) + " 99"), "judge 2 36 = " + t);
        }
        edges.run(all.then("item 2 40 99", "item 2 50 99"), "judge 2 36 = 4");
        edges.run(all, "judge 2 35 = 0", "judge 2 0 = 0", "judge 2 37 = 0");
        edges.promise(33, "100 and how many were looked at, if the row ends ahead of that");
        edges.run(all.then("item 2 58 1", "item 2 59 2"), "judge 2 58 = 102");
        edges.run(all.then("item 2 59 1"), "judge 2 59 = 101", "judge 2 60 = 100", "judge 2 61 = 100",
                "judge 2 MAX = 100");
        Script near = all.then("tape 2 3 23");
        for (int t = 0; t < 23; t++) {
            near = near.then("item 2 " + t + " " + (t + 1));
        }
        edges.run(near, "judge 2 0 = 123");
        edges.promise(33, "one that is otherwise comes ahead of the row's end");
        edges.run(all.then("item 2 58 1"), "judge 2 58 = 1");
        edges.promise(33, "100: the place is below 0, or the TAPE holds nothing, or a row of none");
        edges.run(all, "judge 2 -1 = 100", "judge 2 MIN = 100", "judge 3 0 = 100", "judge 3 -1 = 100",
                "judge 3 MAX = 100", "tape 3 3 0 = 1", "judge 3 0 = 100", "tape 2 -1 0 = 1", "judge 2 36 = 100");
        edges.promise(33, "-5: there are no TICKETS, wherever the place is, also if the TAPE holds nothing");
        edges.run(BARE.then("tape 1 3 4", "tape 2 3 0"), "judge 1 0 = -5", "judge 1 3 = -5", "judge 1 4 = -5",
                "judge 1 -1 = -5", "judge 1 MIN = -5", "judge 1 MAX = -5", "judge 0 0 = -5", "judge 0 MIN = -5",
                "judge 0 MAX = -5", "judge 2 0 = -5", "judge 5 0 = -5");
        edges.promise(33, "all bits of a long count");
        edges.run(BARE.then("ticket 0 7", "tape 0 3 1", "item 0 0 4294967303"), "judge 0 0 = 0", "item 0 0 7 = 1",
                "judge 0 0 = -5", "item 0 0 -7 = 1", "judge 0 0 = 0");
        edges.promise(33, "WORTHS as they are, of TICKETS that nobody has, too; beyond an int");
        edges.run(BARE.then("client 0 0", "currency").times(22, "ticket 0 9999").then(backs(22))
                .then("ticket 1 1", "give 22 0", "ticket 1 9999", "tape 0 3 24", "item 0 22 219978")
                .then(items(22, 9999)), "judge 0 0 = 23", "item 0 23 2199560022 = 1", "judge 0 0 = -5",
                "item 0 23 -2095407274 = 1", "judge 0 0 = 23");
    }

    private static String[] backs(int below) {
        String[] calls = new String[below];
        for (int t = 0; t < below; t++) {
            calls[t] = "back " + t + " 1";
        }
        return calls;
    }

    private static String[] items(int below, long v) {
        String[] calls = new String[below];
        for (int i = 0; i < below; i++) {
            calls[i] = "item 0 " + i + " " + v;
        }
        return calls;
    }

    private void judgeRefused() {
        edges.promise(33, "NONE: tape");
        edges.refused(SOME, "judge -1 0 = NONE", "judge 6 0 = NONE", "judge MIN 0 = NONE", "judge MAX 0 = NONE",
                "judge 6 -1 = NONE");
        edges.refused(BARE, "judge -1 0 = NONE", "judge 6 0 = NONE");
        edges.refused(FULL, "judge 6 0 = NONE");
        edges.promise(33, "CAST: it is no row of longs, wherever the place is");
        edges.refused(SOME, "judge 0 0 = CAST", "judge 1 0 = CAST", "judge 2 0 = CAST", "judge 4 0 = CAST",
                "judge 0 -1 = CAST", "judge 0 60 = CAST", "judge 4 MAX = CAST");
        edges.refused(FULL, "judge 0 0 = CAST", "judge 1 59 = CAST", "judge 2 60 = CAST", "judge 4 0 = CAST");
        edges.refused(BARE.then("ticket 0 1", "tape 0 2 0"), "judge 0 0 = CAST");
        edges.promise(33, "asked changes nothing");
        edges.asked(SOME, "judge 3 0 = 1", "judge 3 12 = 100", "judge 5 0 = 100");
    }

    // ---- promises 34 and 35

    private void image() {
        edges.promise(34, "how many CLIENTS there are: none to eight");
        edges.run(BARE, "image = 0", "client 0 0 = 0", "image = 1", "client 0 0 = 1", "client 0 0 = 2",
                "client 0 0 = 3", "client 0 0 = 4", "client 0 0 = 5", "client 0 0 = 6", "image = 7", "client 0 0 = 7",
                "image = 8", "undo = 8");
        edges.promise(34, "the one that is taken later stands for the one before");
        edges.run(BARE, "image = 0", "client 0 0 = 0", "image = 1", "client 0 0 = 1", "undo = 1", "count 2 = 1",
                "undo = 1");
        edges.promise(34, "taken, all is as it was");
        edges.same("image", SOME.then("image"), SOME, 0, 1, 2, 3);
        edges.same("image", FULL.then("image"), FULL, 0, 1, 2, 3);
        edges.same("image", LATE.then("image"), LATE, 0, 1, 2, 3);
    }

    private void undo() {
        edges.promise(35, "STATE: there is none");
        edges.refused(BARE, "undo = STATE");
        edges.refused(Scenes.funded(3).then("stride 2").text("p0"), "undo = STATE");
        edges.promise(35, "how many CLIENTS: as THE IMAGE had, none to eight; again and again");
        edges.run(BARE.then("image").times(8, "client 0 0"), "undo = 0", "count 2 = 0", "undo = 0", "client 3 3 = 0",
                "of 0 0 = 3", "undo = 0");
        edges.run(FULL, "undo = 8", "undo = 8");
        edges.promise(35, "all is as THE IMAGE, behind each call that changes something");
        String[] calls = {"currency", "ticket 0 5", "ticket 2 9", "client 6 3", "amount 0 7", "give 0 -1", "give 1 6",
            "give 9 0", "back 0 1", "back 9 2", "waits 0 1", "waits 4 -1", "waits 4 0", "row 6 0 9", "row 6 3 1",
            "draw 3 5", "stride 7", "draw 1 40", "stride 40", "see -1 0", "see 0 3", "plan -1 0", "plan 0 0",
            "plan 3 3", "book -1 0", "book 0 4", "of 0 0", "image"};
        for (String call : calls) {
            edges.same("undo behind " + call, SOME.then("image", call, "undo"), SOME.then("image"), 0, 1, 2, 3, 4, 5);
        }
        edges.same("undo behind all", SOME.then("image").then(calls[0], calls[1], calls[3], calls[4], calls[6],
                calls[8], calls[10], calls[12], calls[13], calls[15], calls[16], calls[20], calls[22], calls[25],
                "undo"), SOME.then("image"), 0, 1, 2, 3, 4, 5);
        edges.same("undo of what is full", FULL.then("image", "stride 9", "see -1 0", "see 0 1", "plan -1 0",
                "plan 1 1", "book -1 0", "book 7 7", "give 23 0", "amount 0 1", "waits 0 -1", "undo"),
                FULL.then("image"), 0, 1, 2, 3, 4, 5);
        edges.same("undo of all but BASE", BARE.then("image", "currency", "ticket 1 5", "client 6 2", "give 0 0",
                "row 0 1 4", "see 0 1", "plan 0 0", "book 0 3", "ticket 0 4", "back 1 1", "stride 3", "undo"),
                BARE.then("image"), 0, 1, 2, 3, 4, 5);
    }

    private void undoKeeps() {
        edges.promise(35, "CLOCK and LOWERED are as THE IMAGE, the last CLOCK there is, too");
        edges.run(Scenes.funded(1).then("stride 21", "image", "stride 1"), "told 1 = 1", "undo = 1", "told 1 = 0",
                "told 0 = 210", "of 0 4 = 2100000000", "stride 1 = 0", "told 1 = 1");
        edges.run(Scenes.funded(1).then("stride 22", "image", "stride 21"), "told 1 = 2", "undo = 1", "told 1 = 1");
        edges.run(LATE.then("image", "give 0 -1"), "undo = 1", "stride 1 = STATE", "told 0 = 99990");
        edges.promise(35, "THE TEXT stays as it is");
        edges.run(BARE.text("ab").then("image").text("cde"), "count 6 = 5", "undo = 0", "count 6 = 5", "feed 1 = 6");
        edges.run(BARE.text("ab").then("image", "fund"), "undo = 0", "count 6 = 0", "fund = -10");
        edges.run(BARE.then("client 0 0").text("p0<5").then("image").text("6c0").then("undo"), "fund = 1",
                "card 0 1 = 56");
        edges.promise(35, "TICKETS by fund() go, too");
        edges.run(BARE.then("client 0 0", "image").text("p0<5c0"), "fund = 1", "undo = 1", "count 1 = 0",
                "count 6 = 0");
        edges.promise(35, "the TAPES stay as they are");
        edges.run(BARE.then("tape 0 3 2", "item 0 1 5", "tape 1 3 2", "image", "item 0 1 6", "tape 2 0 1",
                "tape 1 -1 0"), "undo = 0", "read 0 1 = 6", "read 2 0 = 0", "read 1 0 = NO", "item 1 0 1 = NOTHING");
        edges.same("TAPES behind undo", SOME.then("undo"), SOME, 2, 3);
        edges.promise(35, "THE IMAGE stays, and what is changed behind undo is not in it");
        edges.run(Scenes.funded(4, 5).then("image"), "undo = 2", "amount 0 9 = 4", "waits 0 1 = -5", "see 0 1 = 1",
                "undo = 2", "card 0 1 = 4", "of 0 5 = -5", "count 3 = 0");
    }

    // ---- promise 36

    private void taken() {
        Script kinds = BARE;
        for (int kind = 0; kind < 7; kind++) {
            kinds = kinds.then("client " + kind + " 0");
        }
        edges.promise(36, "a CLIENT taken for one of KIND k (0 .. 6), or one under that: its KIND; CAST else");
        int[][] under = {{0, 1, 2, 3, 4, 5, 6}, {1, 4}, {2, 5}, {3, 6}, {4}, {5}, {6}};
        List<String> casts = new ArrayList<>();
        for (int k = 0; k < 7; k++) {
            List<Integer> fit = new ArrayList<>();
            for (int p : under[k]) {
                fit.add(p);
            }
            for (int p = 0; p < 7; p++) {
                edges.run(kinds, "taken " + p + " " + k + " = " + (fit.contains(p) ? p : -12));
                if (!fit.contains(p)) {
                    casts.add("taken " + p + " " + k + " = CAST");
                }
            }
        }
        edges.is("casts", casts.size(), 49 - 16);
        edges.refused(SOME, casts.toArray(new String[0]));
        edges.run(FULL, "taken 7 0 = 1", "taken 7 1 = 1", "taken 7 4 = CAST");
        edges.promise(36, "BAD: k, ahead of NOTHING");
        edges.refused(SOME, "taken 0 -1 = BAD", "taken 0 7 = BAD", "taken 6 MIN = BAD", "taken 6 MAX = BAD",
                "taken 7 -1 = BAD", "taken -1 7 = BAD");
        edges.promise(36, "NOTHING: no such CLIENT");
        edges.refused(SOME, "taken -1 0 = NOTHING", "taken 7 0 = NOTHING", "taken 8 6 = NOTHING",
                "taken MIN 0 = NOTHING", "taken MAX 6 = NOTHING");
        edges.refused(FULL, "taken 8 0 = NOTHING", "taken 8 7 = BAD");
        edges.refused(BARE, "taken 0 0 = NOTHING", "taken 0 6 = NOTHING", "taken 0 7 = BAD", "taken -1 -1 = BAD");
        edges.promise(36, "asked changes nothing");
        edges.asked(SOME, "taken 6 3 = 6", "taken 0 0 = 0");
    }

    // ---- promise 37

    private void count() {
        edges.promise(37, "nothing: BASE alone");
        edges.run(BARE, "count 0 = 1", "count 1 = 0", "count 2 = 0", "count 3 = 0", "count 4 = 0", "count 5 = 0",
                "count 6 = 0");
        edges.promise(37, "one of each");
        edges.run(BARE.then("currency", "ticket 0 1", "client 0 0", "see 0 1", "plan 0 0", "book 0 0", "feed 0"),
                "count 0 = 2", "count 1 = 1", "count 2 = 1", "count 3 = 1", "count 4 = 1", "count 5 = 1",
                "count 6 = 1");
        edges.promise(37, "some, each as many as there are");
        edges.run(SOME, "count 0 = 3", "count 1 = 11", "count 2 = 7", "count 3 = 2", "count 4 = 5", "count 5 = 2",
                "count 6 = 13");
        edges.promise(37, "as many as there may be");
        edges.run(FULL, "count 0 = 6", "count 1 = 24", "count 2 = 8", "count 3 = 5", "count 4 = 10", "count 5 = 8",
                "count 6 = 100");
        edges.promise(37, "BAD");
        edges.refused(SOME, "count -1 = BAD", "count 7 = BAD", "count MIN = BAD", "count MAX = BAD");
        edges.refused(BARE, "count -1 = BAD", "count 7 = BAD");
        edges.promise(37, "asked changes nothing");
        edges.asked(SOME, "count 0 = 3", "count 6 = 13");
    }

    // ---- promise 38

    private void tape() {
        edges.promise(38, "TAPE 0 .. 5, a row of 0 .. 60 of a sort 0 .. 4, all 0: 1");
        for (int sort = 0; sort < 5; sort++) {
            for (int tape = 0; tape < 6; tape += 5) {
                String t = " " + tape + " ";
                edges.run(BARE, "tape" + t + sort + " 60 = 1", "read" + t + "0 = 0", "read" + t + "59 = 0",
                        "read" + t + "60 = NO", "item" + t + "59 1 = 1", "item" + t + "60 1 = PLACE",
                        "tape" + t + sort + " 1 = 1", "read" + t + "0 = 0", "read" + t + "1 = NO",
                        "item" + t + "1 1 = PLACE", "tape" + t + sort + " 0 = 1", "read" + t + "0 = NO",
                        "item" + t + "0 1 = PLACE");
            }
        }
        edges.promise(38, "all 0, whatever it held");
        edges.run(FULL, "read 3 59 = 1", "tape 3 3 60 = 1", "read 3 59 = 0", "item 3 0 -1 = 1", "tape 3 0 60 = 1",
                "read 3 0 = 0", "read 3 59 = 0");
        edges.run(BARE, "tape 0 3 2 = 1", "item 0 1 MOST = 1", "tape 0 3 1 = 1", "tape 0 3 2 = 1", "read 0 1 = 0");
        edges.promise(38, "or holds nothing (sort -1: n does not matter): 1");
        edges.run(FULL, "tape 3 -1 0 = 1", "read 3 59 = NO", "item 3 0 1 = NOTHING", "tape 3 -1 61 = 1",
                "tape 3 -1 -1 = 1", "tape 2 -1 MIN = 1", "item 2 0 1 = NOTHING", "tape 1 -1 MAX = 1",
                "item 1 0 1 = NOTHING", "read 1 59 = NO", "read 0 59 = 1");
        edges.promise(38, "the other TAPES stay as they are");
        edges.run(FULL, "tape 3 0 1 = 1", "read 2 59 = 1", "read 4 59 = 1", "read 5 59 = 1");
        edges.promise(38, "NONE: tape, ahead of BAD and SIZE");
        edges.refused(SOME, "tape -1 0 1 = NONE", "tape 6 0 1 = NONE", "tape MIN 0 1 = NONE", "tape MAX 0 1 = NONE",
                "tape 6 5 1 = NONE", "tape 6 0 61 = NONE", "tape -1 0 -1 = NONE", "tape 6 -1 0 = NONE");
        edges.promise(38, "BAD: sort, ahead of SIZE");
        edges.refused(SOME, "tape 0 -2 1 = BAD", "tape 0 5 1 = BAD", "tape 3 MIN 1 = BAD", "tape 3 MAX 1 = BAD",
                "tape 0 5 -1 = BAD", "tape 0 -2 MIN = BAD", "tape 5 5 0 = BAD");
        edges.promise(38, "BAD: n above 60");
        edges.refused(SOME, "tape 0 0 61 = BAD", "tape 3 3 61 = BAD", "tape 5 4 MAX = BAD");
        edges.refused(FULL, "tape 0 0 61 = BAD");
        edges.promise(38, "SIZE: a size below 0");
        edges.refused(SOME, "tape 0 0 -1 = SIZE", "tape 3 4 -1 = SIZE", "tape 5 3 MIN = SIZE");
        edges.refused(FULL, "tape 0 0 -1 = SIZE");
    }

    // ---- promise 39

    private void item() {
        edges.promise(39, "its lowest bits: a byte");
        edges.run(BARE.then("tape 0 0 60"), "item 0 0 127 = 1", "read 0 0 = 127", "item 0 0 128 = 1", "read 0 0 = -128",
                "item 0 0 -128 = 1", "read 0 0 = -128", "item 0 0 -129 = 1", "read 0 0 = 127", "item 0 0 256 = 1",
                "read 0 0 = 0", "item 0 59 MOST = 1", "read 0 59 = -1", "item 0 59 LEAST = 1", "read 0 59 = 0");
        edges.promise(39, "its lowest bits: a short");
        edges.run(BARE.then("tape 0 1 60"), "item 0 0 32767 = 1", "read 0 0 = 32767", "item 0 0 32768 = 1",
                "read 0 0 = -32768", "item 0 0 -32769 = 1", "read 0 0 = 32767", "item 0 0 65536 = 1", "read 0 0 = 0",
                "item 0 59 MOST = 1", "read 0 59 = -1", "item 0 59 LEAST = 1", "read 0 59 = 0");
        edges.promise(39, "its lowest bits: an int");
        edges.run(BARE.then("tape 0 2 60"), "item 0 0 MAX = 1", "read 0 0 = MAX", "item 0 0 2147483648 = 1",
                "read 0 0 = MIN", "item 0 0 -2147483649 = 1", "read 0 0 = MAX", "item 0 0 4294967296 = 1",
                "read 0 0 = 0", "item 0 59 MOST = 1", "read 0 59 = -1", "item 0 59 LEAST = 1", "read 0 59 = 0");
        edges.promise(39, "all bits: a long");
        edges.run(BARE.then("tape 0 3 60"), "item 0 0 MOST = 1", "read 0 0 = MOST", "item 0 59 -4294967297 = 1",
                "read 0 59 = -4294967297", "item 0 0 LEAST = 1", "read 0 0 = LEAST");
        edges.promise(39, "a boolean: whether v is not 0");
        edges.run(BARE.then("tape 0 4 60"), "item 0 0 1 = 1", "read 0 0 = 1", "item 0 0 0 = 1", "read 0 0 = 0",
                "item 0 0 2 = 1", "read 0 0 = 1", "item 0 1 -1 = 1", "read 0 1 = 1", "item 0 2 4294967296 = 1",
                "read 0 2 = 1", "item 0 59 LEAST = 1", "read 0 59 = 1", "item 0 59 0 = 1", "read 0 59 = 0");
        edges.promise(39, "one item alone");
        edges.run(BARE.then("tape 0 3 3", "tape 1 3 3", "item 0 1 5"), "read 0 0 = 0", "read 0 1 = 5", "read 0 2 = 0",
                "read 1 1 = 0");
        edges.promise(39, "NONE, ahead of NOTHING and PLACE");
        edges.refused(SOME, "item -1 0 1 = NONE", "item 6 0 1 = NONE", "item MIN 0 1 = NONE", "item MAX 0 1 = NONE",
                "item 6 -1 1 = NONE");
        edges.refused(BARE, "item 6 0 1 = NONE", "item -1 0 0 = NONE");
        edges.promise(39, "NOTHING, ahead of PLACE");
        edges.refused(SOME, "item 5 0 1 = NOTHING", "item 5 -1 1 = NOTHING", "item 5 60 0 = NOTHING",
                "item 5 MAX 1 = NOTHING");
        edges.refused(BARE, "item 0 0 1 = NOTHING", "item 5 0 1 = NOTHING");
        edges.promise(39, "PLACE");
        edges.refused(SOME, "item 0 3 1 = PLACE", "item 0 -1 1 = PLACE", "item 1 4 1 = PLACE", "item 2 5 1 = PLACE",
                "item 3 12 1 = PLACE", "item 4 2 1 = PLACE", "item 3 59 1 = PLACE", "item 3 60 1 = PLACE",
                "item 0 MIN 1 = PLACE", "item 0 MAX 1 = PLACE");
        edges.refused(FULL, "item 0 60 1 = PLACE", "item 3 -1 1 = PLACE", "item 4 60 0 = PLACE");
        edges.refused(BARE.then("tape 5 2 0"), "item 5 0 1 = PLACE", "item 5 -1 1 = PLACE");
    }

    // ---- promise 40

    private void read() {
        edges.promise(40, "item 0 to the last");
        edges.run(FULL, "read 0 0 = 0", "read 0 59 = 1", "read 5 59 = 1");
        edges.run(SOME, "read 3 0 = 1000", "read 3 11 = MOST", "read 0 1 = -128", "read 1 3 = -32768", "read 2 4 = MIN",
                "read 4 1 = 1");
        edges.promise(40, "NO: no such TAPE");
        edges.refused(SOME, "read -1 0 = NO", "read 6 0 = NO", "read MIN 0 = NO", "read MAX 0 = NO");
        edges.promise(40, "NO: nothing there");
        edges.refused(SOME, "read 5 0 = NO", "read 5 -1 = NO");
        edges.refused(BARE, "read 0 0 = NO", "read 5 0 = NO");
        edges.run(SOME, "tape 3 -1 0 = 1", "read 3 0 = NO", "read 3 11 = NO");
        edges.promise(40, "NO: no such place");
        edges.refused(SOME, "read 0 -1 = NO", "read 0 3 = NO", "read 3 12 = NO", "read 3 59 = NO", "read 0 MIN = NO",
                "read 0 MAX = NO");
        edges.refused(FULL, "read 0 60 = NO", "read 5 60 = NO", "read 5 -1 = NO");
        edges.refused(BARE.then("tape 0 3 0"), "read 0 0 = NO");
        edges.promise(40, "asked changes nothing");
        edges.asked(SOME, "read 3 0 = 1000", "read 3 5 = 0");
    }

    // ---- promise 41

    private static final Script ROWS = BARE.then("tape 0 2 5", "tape 1 2 3", "tape 2 3 5", "tape 3 2 0", "item 0 0 1",
            "item 0 1 2", "item 0 2 3", "item 0 3 4", "item 0 4 5", "item 1 0 9", "item 1 1 9", "item 1 2 9");

    private void items(String call, int tape, int... want) {
        String[] calls = new String[want.length + 2];
        calls[0] = call;
        for (int i = 0; i < want.length; i++) {
            calls[i + 1] = "read " + tape + " " + i + " = " + want[i];
        }
        calls[want.length + 1] = "read " + tape + " " + want.length + " = NO";
        edges.run(ROWS, calls);
    }

    private void shift() {
        edges.promise(41, "n items from i on come to another one from j on: n");
        items("shift 0 0 1 0 3 = 3", 1, 1, 2, 3);
        items("shift 0 2 1 0 3 = 3", 1, 3, 4, 5);
        items("shift 0 4 1 2 1 = 1", 1, 9, 9, 5);
        items("shift 0 4 1 0 1 = 1", 1, 5, 9, 9);
        items("shift 0 0 1 2 1 = 1", 1, 9, 9, 1);
        items("shift 0 2 1 0 3 = 3", 0, 1, 2, 3, 4, 5);
        items("shift 1 0 0 2 3 = 3", 0, 1, 2, 9, 9, 9);
        edges.promise(41, "or the same, as they all were before");
        items("shift 0 0 0 1 4 = 4", 0, 1, 1, 2, 3, 4);
        items("shift 0 1 0 0 4 = 4", 0, 2, 3, 4, 5, 5);
        items("shift 0 0 0 0 5 = 5", 0, 1, 2, 3, 4, 5);
        items("shift 0 0 0 2 3 = 3", 0, 1, 2, 1, 2, 3);
        items("shift 0 2 0 0 3 = 3", 0, 3, 4, 5, 4, 5);
        items("shift 0 0 0 4 1 = 1", 0, 1, 2, 3, 4, 1);
        edges.promise(41, "n is 0: 0, at either's end, too");
        items("shift 0 5 1 3 0 = 0", 1, 9, 9, 9);
        items("shift 0 0 1 0 0 = 0", 1, 9, 9, 9);
        edges.run(ROWS, "shift 3 0 3 0 0 = 0", "shift 3 0 0 5 0 = 0", "shift 0 5 3 0 0 = 0");
        edges.same("0 items", ROWS.then("shift 0 5 1 3 0"), ROWS, 2, 3);
        edges.promise(41, "60 items, of each sort, as they are");
        for (int sort = 0; sort < 5; sort++) {
            long least = sort == 4 ? 1 : sort == 3 ? Long.MIN_VALUE : -1L << (8 << sort) - 1;
            edges.run(BARE, "tape 0 " + sort + " 60", "tape 5 " + sort + " 60", "item 0 59 " + least,
                    "shift 0 0 5 0 60 = 60", "read 5 59 = " + least, "read 5 0 = 0", "shift 0 0 5 1 60 = PLACE",
                    "shift 0 59 5 0 1 = 1", "read 5 0 = " + least);
        }
    }

    private void shiftRefused() {
        edges.promise(41, "NONE: tapes, ahead of NOTHING, CAST, PLACE");
        edges.refused(ROWS, "shift -1 0 0 0 1 = NONE", "shift 6 0 0 0 1 = NONE", "shift 0 0 -1 0 1 = NONE",
                "shift 0 0 6 0 1 = NONE", "shift MIN 0 0 0 1 = NONE", "shift 0 0 MAX 0 1 = NONE",
                "shift 6 0 5 0 1 = NONE", "shift 5 0 6 0 1 = NONE", "shift 6 -1 0 0 -1 = NONE");
        edges.promise(41, "NOTHING, ahead of CAST and PLACE");
        edges.refused(ROWS, "shift 5 0 0 0 1 = NOTHING", "shift 0 0 5 0 1 = NOTHING", "shift 4 0 5 0 0 = NOTHING",
                "shift 5 -1 0 0 1 = NOTHING", "shift 0 0 5 0 -1 = NOTHING", "shift 5 0 5 0 0 = NOTHING");
        edges.promise(41, "CAST: of unlike sorts, ahead of PLACE");
        edges.refused(ROWS, "shift 0 0 2 0 1 = CAST", "shift 2 0 0 0 0 = CAST", "shift 0 -1 2 0 1 = CAST",
                "shift 0 0 2 0 -1 = CAST", "shift 2 0 3 0 0 = CAST");
        edges.refused(SOME, "shift 0 0 1 0 1 = CAST", "shift 1 0 2 0 1 = CAST", "shift 2 0 3 0 1 = CAST",
                "shift 3 0 4 0 1 = CAST", "shift 4 0 0 0 1 = CAST");
        edges.promise(41, "PLACE: n, i or j is below 0");
        edges.refused(ROWS, "shift 0 0 1 0 -1 = PLACE", "shift 0 -1 1 0 1 = PLACE", "shift 0 0 1 -1 1 = PLACE",
                "shift 0 -1 1 0 0 = PLACE", "shift 0 0 1 -1 0 = PLACE", "shift 0 1 1 1 -1 = PLACE",
                "shift 0 0 1 0 MIN = PLACE", "shift 0 MIN 1 0 1 = PLACE", "shift 0 0 1 MIN 1 = PLACE",
                "shift 0 MIN 1 MIN MIN = PLACE");
        edges.promise(41, "PLACE: beyond either's end");
        edges.refused(ROWS, "shift 0 3 1 0 3 = PLACE", "shift 0 0 1 0 4 = PLACE", "shift 0 0 1 1 3 = PLACE",
                "shift 0 5 1 0 1 = PLACE", "shift 0 0 1 3 1 = PLACE", "shift 0 6 1 0 0 = PLACE",
                "shift 0 0 1 4 0 = PLACE", "shift 1 0 0 0 4 = PLACE", "shift 1 0 0 3 3 = PLACE",
                "shift 0 1 0 0 5 = PLACE", "shift 0 0 0 1 5 = PLACE", "shift 0 0 0 0 6 = PLACE",
                "shift 3 0 0 0 1 = PLACE", "shift 0 0 3 0 1 = PLACE");
        edges.promise(41, "PLACE: also where i and n, or j and n, together would leave an int");
        edges.refused(ROWS, "shift 0 MAX 1 0 1 = PLACE", "shift 0 0 1 MAX 1 = PLACE", "shift 0 1 1 0 MAX = PLACE",
                "shift 0 0 1 1 MAX = PLACE", "shift 0 MAX 1 MAX MAX = PLACE", "shift 0 MAX 1 0 0 = PLACE",
                "shift 0 0 1 MAX 0 = PLACE");
        edges.refused(FULL, "shift 3 1 5 0 60 = PLACE", "shift 3 0 5 1 60 = PLACE", "shift 3 0 5 0 61 = PLACE",
                "shift 3 60 5 60 1 = PLACE");
    }

    public static void main(String[] args) {
        TapeEdgesTest test = new TapeEdgesTest();
        test.judge();
        test.judgeRefused();
        test.image();
        test.undo();
        test.undoKeeps();
        test.taken();
        test.count();
        test.tape();
        test.item();
        test.read();
        test.shift();
        test.shiftRefused();
        test.edges.end(33, 41);
    }
}

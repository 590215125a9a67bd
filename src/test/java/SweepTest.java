import java.util.ArrayList;
import java.util.List;
import java.util.Set;

/**
 * Each call of the face with each of its numbers at its edges, all with all, on halls that hold nothing, some and as
 * much as may be, and on late ones: each answer is held against NaiveHall's, what is refused or asked must change
 * nothing, and behind what changes something both must look alike.
 */
public final class SweepTest {
    private static final int MOST_CALLS = 512;
    private static final String CURRENCY = "MIN -1 0 1 2 3 5 6 MAX";
    private static final String TICKET = "MIN -1 0 1 4 9 10 11 23 24 MAX";
    private static final String CLIENT = "MIN -2 -1 0 1 2 4 6 7 8 MAX";
    private static final String KIND = "MIN -1 0 1 2 3 4 5 6 7 MAX";
    private static final String AMOUNT = "MIN -1 0 1 9999 10000 MAX";
    private static final String DIGIT = "MIN -1 0 9 10 MAX";
    private static final String PART = "MIN -1 0 1 2 MAX";
    private static final String SEED = "MIN -1 0 7 MAX";
    private static final String QUANTA = "MIN -1 0 1 2 39 40 41 MAX";
    private static final String TAPE = "MIN -1 0 3 5 6 MAX";
    private static final String PLACE = "MIN -1 0 1 2 3 4 11 12 59 60 61 MAX";
    private static final String[][] CALLS = {{"currency"}, {"ticket", CURRENCY, AMOUNT}, {"client", KIND, DIGIT},
        {"amount", TICKET, AMOUNT}, {"give", TICKET, CLIENT}, {"back", TICKET, CURRENCY}, {"waits", CLIENT, CLIENT},
        {"row", CLIENT, "MIN -1 0 3 4 MAX", DIGIT}, {"of", CLIENT, "MIN -1 0 1 2 3 4 5 6 7 8 9 MAX"},
        {"card", TICKET, "MIN -1 0 1 2 3 MAX"}, {"worth", "MIN -1 0 1 2 3 4 5 6 MAX", TICKET},
        {"needs", CURRENCY, PART}, {"order"}, {"feed", "MIN -1 0 48 127 128 MAX"}, {"fund"}, {"draw", SEED, QUANTA},
        {"stride", QUANTA}, {"told", "MIN -1 0 1 2 3 4 MAX"}, {"on", "MIN 7 MAX", "MIN -1 0 1 40 41 MAX",
            "MIN -1 0 1 9 10 16 17 18 30 MAX"}, {"by", "MIN -1 0 1 40 41 MAX",
            "MIN -1 0 1 2 9 10 16 17 18 29 30 36 37 38 MAX"}, {"lag", CLIENT, "MIN -1 0 1 40 41 MAX", PART},
        {"best", CLIENT, "MIN -1 0 1 9 10 11 20 21 33 34 MAX"}, {"see", CLIENT, "MIN 0 1 12 13 MAX"}, {"seeds"},
        {"can", CLIENT, SEED, PART}, {"odds", CLIENT, PART}, {"mean", PART},
        {"plan", "MIN -2 -1 0 1 2 3 4 MAX", TICKET}, {"ends", "MIN -1 0 1 2 3 MAX"},
        {"book", CLIENT, "MIN -1 0 1 MAX"}, {"looked"}, {"judge", TAPE, PLACE}, {"image"}, {"undo"},
        {"taken", CLIENT, KIND}, {"count", "MIN -1 0 1 2 3 4 5 6 7 MAX"},
        {"tape", TAPE, "MIN -2 -1 0 3 4 5 MAX", "MIN -1 0 1 60 61 MAX"},
        {"item", TAPE, PLACE, "LEAST -4294967297 -1 0 1 128 4294967296 MOST"}, {"read", TAPE, PLACE},
        {"shift", "MIN -1 0 3 5 6", "MIN -1 0 1 59 60 MAX", "-1 0 3 5 6 MAX", "MIN -1 0 1 60 MAX",
            "MIN -1 0 1 2 60 61 MAX"}};
    private static final Set<String> ASKED = Set.of("of", "card", "worth", "needs", "order", "told", "on", "by", "lag",
            "best", "seeds", "can", "odds", "mean", "ends", "looked", "judge", "taken", "count", "read");
    private static final Set<String> OF_TAPES = Set.of("tape", "item", "shift");

    private final Due due = new Due("SweepTest");
    private Script scene;
    private TicketHall hall;
    private NaiveHall naive;
    private int left;

    private static List<String> allOf(String[] call) {
        List<String> found = new ArrayList<>();
        found.add(call[0]);
        for (int k = 1; k < call.length; k++) {
            List<String> longer = new ArrayList<>();
            for (String head : found) {
                for (String number : call[k].split(" ")) {
                    longer.add(head + " " + number);
                }
            }
            found = longer;
        }
        return found;
    }

    private void begin() {
        hall = scene.hall();
        naive = scene.naive();
        left = MOST_CALLS - scene.size();
    }

    private void alike(String call, List<String> got, List<String> want) {
        int k = 0;
        while (k < got.size() && k < want.size() && got.get(k).equals(want.get(k))) {
            k++;
        }
        due.holds("behind " + call + ": " + (k < got.size() ? got.get(k) : "no more") + ", not "
                + (k < want.size() ? want.get(k) : "no more"), k == got.size() && k == want.size());
    }

    /** What has been refused or asked on this hall up to now has changed nothing. */
    private void endUnchanged(String call, int which) {
        int calls = scene.look(which).size() + Looks.COUNTS;
        if (left >= calls) {
            alike(call, Looks.at(hall, which), scene.look(which));
        }
        begin();
    }

    private void sweep(int promise, String[] call) {
        due.promise(promise, call[0] + " at all edges");
        begin();
        int made = 0;
        for (String text : allOf(call)) {
            Call one = new Call(text);
            long got = one.on(hall);
            due.is(text, got, one.on(naive));
            left--;
            made++;
            boolean refused = got <= -1 && got >= -4 || got <= -11 && got >= -14;
            if (ASKED.contains(one.name) || refused && !one.name.equals("fund")) {
                if (left < 260 + Looks.COUNTS) {
                    endUnchanged("calls up to " + text, made % Looks.MANY);
                }
                continue;
            }
            int which = OF_TAPES.contains(one.name) ? 2 + made % 2 : 0;
            alike(text, Looks.at(hall, which), Looks.at(naive, which));
            begin();
        }
        endUnchanged("calls of " + call[0], made % Looks.MANY);
    }

    private void sweepAll(Script of, Set<String> without) {
        scene = of;
        for (int k = 0; k < CALLS.length; k++) {
            if (!without.contains(CALLS[k][0])) {
                sweep(k + 2, CALLS[k]);
            }
        }
    }

    public static void main(String[] args) {
        SweepTest test = new SweepTest();
        test.sweepAll(Scenes.BARE, Set.of());
        test.sweepAll(Scenes.SOME, Set.of());
        test.sweepAll(Scenes.FULL, Set.of("shift"));
        test.scene = Scenes.LATE_BY_9;
        test.sweep(17, CALLS[15]);
        test.sweep(18, CALLS[16]);
        test.due.needPromises(2, 41);
        test.due.end();
    }
}

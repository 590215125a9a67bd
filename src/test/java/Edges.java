import java.util.List;

/** What the tests of edges share: calls on halls, and whether a call has changed anything. */
final class Edges {
    private static final int MOST_CALLS = 512;

    private final Due due;

    Edges(String name) {
        due = new Due(name);
    }

    /** The sentence of the document that the next calls look at. */
    void promise(int number, String sentence) {
        due.promise(number, sentence);
    }

    void is(String what, long got, long want) {
        due.is(what, got, want);
    }

    void holds(String what, boolean so) {
        due.holds(what, so);
    }

    /** All on one hall, one behind the other. */
    void run(Script scene, String... calls) {
        TicketHall x = scene.hall();
        need(scene.size() + calls.length);
        for (String written : calls) {
            Call call = new Call(written);
            long got = call.on(x);
            if (call.hasDue) {
                due.is(call.text, got, call.due);
            }
        }
    }

    /** Each on a hall of its own: it is refused, and nothing has changed. */
    void refused(Script scene, String... calls) {
        for (String written : calls) {
            due.holds(written + " tells a refusal", new Call(written).isRefusal());
            keeps(scene, written);
        }
    }

    /** Each on a hall of its own: nothing has changed. */
    void asked(Script scene, String... calls) {
        for (String written : calls) {
            keeps(scene, written);
        }
    }

    private void keeps(Script scene, String written) {
        Call call = new Call(written);
        for (int which = 0; which < Looks.MANY; which++) {
            TicketHall x = scene.hall();
            due.is(call.text, call.on(x), call.due);
            alike("behind " + call.text, Looks.at(x, which), scene.look(which), scene.size() + 1);
        }
    }

    /** Two halls furnished by other calls look alike; asked may be some looks alone. */
    void same(String what, Script one, Script other, int... looks) {
        for (int which : looks) {
            alike(what, one.look(which), other.look(which), Math.max(one.size(), other.size()));
        }
    }

    private void alike(String what, List<String> got, List<String> want, int before) {
        need(before + Math.max(got.size(), want.size()) + Looks.COUNTS);
        int k = 0;
        while (k < got.size() && k < want.size() && got.get(k).equals(want.get(k))) {
            k++;
        }
        String gotThere = k < got.size() ? got.get(k) : "no more";
        String wantThere = k < want.size() ? want.get(k) : "no more";
        due.holds(what + ": " + gotThere + ", where it was " + wantThere, k == got.size() && k == want.size());
    }

    /** What later calls answer is free, so no test may lean on it. */
    private void need(int calls) {
        due.holds(calls + " calls are at most " + MOST_CALLS, calls <= MOST_CALLS);
    }

    void end(int first, int last) {
        due.needPromises(first, last);
        due.end();
    }
}

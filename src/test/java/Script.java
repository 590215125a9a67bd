import java.util.ArrayList;
import java.util.List;

/** Calls one behind the other, by which a new hall is furnished. */
final class Script {
    private final List<Call> calls;
    private final List<List<String>> looks = new ArrayList<>();

    private Script(List<Call> calls) {
        this.calls = calls;
    }

    static Script of(String... calls) {
        return new Script(new ArrayList<>()).then(calls);
    }

    Script then(String... more) {
        List<Call> all = new ArrayList<>(calls);
        for (String call : more) {
            all.add(new Call(call));
        }
        return new Script(all);
    }

    Script times(int n, String call) {
        String[] more = new String[n];
        java.util.Arrays.fill(more, call);
        return then(more);
    }

    /** The signs of a text are fed. */
    Script text(String signs) {
        String[] more = new String[signs.length()];
        for (int k = 0; k < more.length; k++) {
            more[k] = "feed " + (int) signs.charAt(k);
        }
        return then(more);
    }

    int size() {
        return calls.size();
    }

    TicketHall hall() {
        TicketHall x = new TicketHall();
        for (Call call : calls) {
            call.on(x);
        }
        return x;
    }

    NaiveHall naive() {
        NaiveHall x = new NaiveHall();
        for (Call call : calls) {
            call.on(x);
        }
        return x;
    }

    /** What a hall looks like that is furnished so, and used no more. */
    List<String> look(int which) {
        while (looks.size() <= which) {
            looks.add(Looks.at(hall(), looks.size()));
        }
        return looks.get(which);
    }
}

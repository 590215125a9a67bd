import java.lang.reflect.Method;
import java.util.ArrayList;
import java.util.Arrays;
import java.util.List;
import java.util.Random;
import java.util.TreeMap;

/** Runs of calls made by chance (always the same), each answer held against NaiveHall's. */
public final class RandomRunsTest {
    private static final int CALLS = 512;
    private static final int[] ODD = {Integer.MIN_VALUE, Integer.MIN_VALUE + 1, -1000, -3, -2, -1, 10, 99, 1000000,
        Integer.MAX_VALUE - 1, Integer.MAX_VALUE};

    private final Random chance;
    private final TicketHall hall = new TicketHall();
    private final NaiveHall naive = new NaiveHall();
    private final List<String> calls = new ArrayList<>();
    private final TreeMap<String, Method[]> methods;
    private final TreeMap<String, TreeMap<String, Integer>> answers;
    private final int style;
    private boolean wrong;

    private RandomRunsTest(long seed, TreeMap<String, Method[]> methods,
            TreeMap<String, TreeMap<String, Integer>> answers) {
        this.chance = new Random(seed);
        this.style = (int) (seed % 6);
        this.methods = methods;
        this.answers = answers;
    }

    private int below(int n) {
        return chance.nextInt(n);
    }

    /** Mostly a number from 0 below n, now and then one that is odd. */
    private int near(int n) {
        return below(40) == 0 ? ODD[below(ODD.length)] : below(14) == 0 ? below(n + 4) - 2 : below(n);
    }

    private int someTicket() {
        return near(Math.max(1, naive.count(1)));
    }

    private int someClient() {
        return near(Math.max(1, naive.count(2)));
    }

    private int someCurrency() {
        return near(naive.count(0));
    }

    private int amount() {
        int most = style == 1 ? 3 : style == 2 ? 9999 : below(2) == 0 ? 60 : 2000;
        return below(25) == 0 ? near(10001) : 1 + below(most);
    }

    private void call(String name, Object... args) throws Exception {
        if (wrong || calls.size() >= CALLS) {
            return;
        }
        Method[] both = methods.get(name);
        Object got = both[0].invoke(hall, args);
        Object want = both[1].invoke(naive, args);
        String text = name + Arrays.toString(args) + " = " + got;
        calls.add(text);
        answers.computeIfAbsent(name, k -> new TreeMap<>()).merge(kindOf(((Number) got).longValue()), 1, Integer::sum);
        if (!got.equals(want)) {
            wrong = true;
            System.out.println("style " + style + ": due was " + want + " at the end of:");
            calls.forEach(c -> System.out.println("  " + c));
        }
    }

    private static String kindOf(long answer) {
        return answer == Long.MIN_VALUE ? "NO" : answer < -14 ? "far below" : answer >= 0 ? "0 or more" : "" + answer;
    }

    private static TreeMap<String, Method[]> methods() throws Exception {
        TreeMap<String, Method[]> found = new TreeMap<>();
        for (Method m : TicketHall.class.getDeclaredMethods()) {
            if (java.lang.reflect.Modifier.isPublic(m.getModifiers())) {
                Method other = NaiveHall.class.getMethod(m.getName(), m.getParameterTypes());
                found.put(m.getName(), new Method[] {m, other});
            }
        }
        return found;
    }

    // ---- what is called

    private void feedAll(String text) throws Exception {
        for (int i = 0; i < text.length(); i++) {
            call("feed", (int) text.charAt(i));
        }
    }

    private String fundsText() {
        StringBuilder text = new StringBuilder();
        int clauses = below(12) == 0 ? 8 + below(2) : 1 + below(3);
        for (int k = 0; k < clauses; k++) {
            text.append(k == 0 ? "" : ";").append(below(2) == 0 ? 'p' : 'c').append(below(7)).append('<');
            int funds = below(12) == 0 ? 20 : 1 + below(2);
            for (int f = 0; f < funds; f++) {
                text.append(f == 0 ? "" : "+").append(below(8) == 0 ? below(10000) : 1 + below(99));
                text.append('c').append(below(5));
            }
        }
        if (below(3) == 0) {
            int place = below(text.length() + 1);
            String odd = "pc<;+0123456789 x";
            switch (below(3)) {
                case 0 -> text.insert(place, odd.charAt(below(odd.length())));
                case 1 -> text.setLength(place);
                default -> text.deleteCharAt(Math.min(place, text.length() - 1));
            }
        }
        return text.toString();
    }

    private void furnish() throws Exception {
        int currencies = below(6);
        for (int k = 0; k < currencies; k++) {
            call("currency");
        }
        int clients = below(9);
        for (int k = 0; k < clients; k++) {
            call("client", below(7), below(10));
        }
        int tickets = below(20);
        for (int k = 0; k < tickets; k++) {
            call("ticket", below(currencies + 1), amount());
            if (below(3) > 0 && clients > 0) {
                call("give", k, below(clients));
            } else {
                call("back", k, below(currencies + 1));
            }
        }
    }

    private void build() throws Exception {
        switch (below(11)) {
            case 0 -> call("currency");
            case 1, 2 -> call("ticket", someCurrency(), amount());
            case 3 -> call("client", near(7), near(10));
            case 4 -> call("amount", someTicket(), amount());
            case 5, 6 -> call("give", someTicket(), someClient());
            case 7, 8 -> call("back", someTicket(), someCurrency());
            case 9 -> call("waits", someClient(), below(3) == 0 ? -1 : someClient());
            default -> call("row", someClient(), near(4), near(10));
        }
    }

    private void look() throws Exception {
        switch (below(6)) {
            case 0 -> call("of", someClient(), near(9));
            case 1 -> call("card", someTicket(), near(3));
            case 2 -> call("worth", near(6), someClient());
            case 3 -> call("needs", someCurrency(), near(2));
            case 4 -> call("order");
            default -> call("told", near(4));
        }
    }

    private void go() throws Exception {
        int n = style == 3 && below(6) > 0 ? 40 : near(41);
        switch (style == 3 ? below(3) / 2 * 5 + below(2) : below(6)) {
            case 0 -> call("draw", chance.nextInt(), n);
            case 1 -> call("stride", n);
            case 2 -> call("on", chance.nextInt(), near(41), below(2) == 0 ? near(2) : 10 + someClient());
            case 3 -> call("by", near(41), below(3) == 0 ? near(2) : below(2) == 0 ? 10 + someClient() : 30 + someClient());
            case 4 -> call("lag", someClient(), near(41), near(2));
            default -> call("best", someClient(), below(4) == 0 ? 0 : 10 + someTicket());
        }
    }

    private void tell() throws Exception {
        switch (below(14)) {
            case 0, 1 -> call("see", below(8) == 0 ? -1 : someClient(), below(4) == 0 ? near(13) : 1 + below(4));
            case 2 -> call("seeds");
            case 3, 4 -> call("can", someClient(), below(8) == 0 ? chance.nextInt() : below(31), near(2));
            case 5 -> call("odds", someClient(), near(2));
            case 6 -> call("mean", near(2));
            case 7, 8 -> call("plan", below(20) == 0 ? -1 : near(4), below(2) == 0 ? someTicket() : someClient());
            case 9 -> call("ends", near(3));
            case 10, 11 -> tellRan();
            case 12 -> call("looked");
            default -> call("see", -1, 0);
        }
    }

    private void tellRan() throws Exception {
        int client = below(8) == 0 ? -1 : someClient();
        call("book", client, client >= 0 && below(5) > 0 ? naive.of(client, 2) : near(50));
    }

    private void keep() throws Exception {
        switch (below(12)) {
            case 0 -> judgeTold();
            case 1 -> call("judge", near(6), near(10));
            case 2 -> call("image");
            case 3 -> call("undo");
            case 4, 5 -> call("taken", someClient(), near(7));
            case 6 -> call("count", near(7));
            case 7 -> call("tape", near(6), near(5), near(61));
            case 8 -> call("item", near(6), near(20), chance.nextLong() >> below(64));
            case 9, 10 -> call("read", near(6), near(20));
            default -> call("shift", near(6), near(20), near(6), near(20), near(20));
        }
    }

    /** A tape of longs that tells the worths as they are, all but one now and then. */
    private void judgeTold() throws Exception {
        int tape = below(6);
        int from = below(3);
        int tickets = naive.count(1);
        call("tape", tape, 3, Math.max(0, tickets + from - below(2)));
        for (int t = 0; t < tickets; t++) {
            call("item", tape, from + t, naive.worth(0, t) + (below(12) == 0 ? 1 : 0));
        }
        call("judge", tape, below(10) == 0 ? near(60) : from);
    }

    private void run() throws Exception {
        if (style != 5) {
            furnish();
        }
        int guard = 0;
        while (!wrong && calls.size() < CALLS && guard++ < 5000) {
            int die = style == 3 && below(8) > 0 ? 4 : below(12);
            switch (die) {
                case 0 -> build();
                case 1 -> look();
                case 2, 3, 4, 5, 6 -> goOrFeed(die);
                case 7, 8, 9 -> tell();
                default -> keep();
            }
        }
    }

    private void goOrFeed(int die) throws Exception {
        if (die == 2 && style != 3 && below(3) == 0) {
            feedAll(fundsText());
            call("fund");
        } else if (die == 3 && below(4) == 0) {
            build();
        } else {
            go();
        }
    }

    public static void main(String[] args) throws Exception {
        Watch.begin("RandomRunsTest");
        int runs = args.length > 0 ? Integer.parseInt(args[0]) : 600;
        long first = args.length > 1 ? Long.parseLong(args[1]) : 1;
        TreeMap<String, Method[]> methods = methods();
        TreeMap<String, TreeMap<String, Integer>> answers = new TreeMap<>();
        long looked = 0;
        int lowered = 0;
        for (long seed = first; seed < first + runs; seed++) {
            RandomRunsTest run = new RandomRunsTest(seed, methods, answers);
            run.run();
            looked += run.calls.size();
            lowered += run.naive.told(1) > 0 ? 1 : 0;
            if (run.wrong) {
                System.out.println("RandomRunsTest: run " + seed + " is wrong");
                System.exit(1);
            }
        }
        if (args.length > 0) {
            System.out.println("runs with PASSES lowered: " + lowered);
            answers.forEach((name, kinds) -> System.out.println(name + " " + kinds));
        }
        if (methods.size() != 40 || answers.size() != 40) {
            System.out.println("RandomRunsTest: " + answers.size() + " of 40 methods were called");
            System.exit(1);
        }
        System.out.println("RandomRunsTest: " + runs + " runs, " + looked + " answers, 0 not as due");
    }
}

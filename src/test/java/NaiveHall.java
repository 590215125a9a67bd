import java.math.BigInteger;
import java.util.ArrayList;
import java.util.List;
import java.util.regex.Matcher;
import java.util.regex.Pattern;

/**
 * The document once more, written word by word with no thought for speed: values by recursion, what is asked on a
 * copy of all, ORDER by trying every row, FUNDS by a pattern. RandomRunsTest holds the program against it.
 */
public final class NaiveHall {
    static final int NONE = -1, BAD = -2, STATE = -3, FULL = -4;
    static final long NO = Long.MIN_VALUE;

    static final class Ticket {
        int currency;
        int amount;
        int holder = -1;
        int backed = -1;

        int who() {
            return holder >= 0 ? holder : backed >= 0 ? 10 + backed : -5;
        }

        boolean placed() {
            return holder >= 0 || backed >= 0;
        }

        void free() {
            holder = -1;
            backed = -1;
        }

        Ticket copy() {
            Ticket t = new Ticket();
            t.currency = currency;
            t.amount = amount;
            t.holder = holder;
            t.backed = backed;
            return t;
        }
    }

    static class Client {
        int kind;
        int v;
        int ran;
        int used = 10;
        int pass;
        int waiting = -5;
        int[] row = new int[4];

        int parts(int clock) {
            return 10;
        }

        boolean serves() {
            return false;
        }

        final Client copy() {
            Client c = made(kind, v);
            c.ran = ran;
            c.used = used;
            c.pass = pass;
            c.waiting = waiting;
            c.row = row.clone();
            return c;
        }
    }

    static class Yielder extends Client {
        @Override
        int parts(int clock) {
            return v + 1;
        }
    }

    static class Server extends Client {
        @Override
        boolean serves() {
            return true;
        }
    }

    static class Burst extends Client {
        @Override
        int parts(int clock) {
            return (clock / 10) % 2 != 0 ? super.parts(clock) - 5 : super.parts(clock);
        }
    }

    static final class Shy extends Yielder {
        @Override
        int parts(int clock) {
            int half = super.parts(clock) / 2;
            return half < 1 ? 1 : half;
        }
    }

    static final class Daemon extends Server {
        @Override
        int parts(int clock) {
            return super.parts(clock) - v;
        }
    }

    static final class Told extends Burst {
        @Override
        int parts(int clock) {
            int left = super.parts(clock) - row[clock % 4];
            return left < 1 ? 1 : left;
        }
    }

    static final Class<?>[] CLASSES =
            {Client.class, Yielder.class, Server.class, Burst.class, Shy.class, Daemon.class, Told.class};

    static Client made(int kind, int v) {
        Client c = switch (kind) {
            case 0 -> new Client();
            case 1 -> new Yielder();
            case 2 -> new Server();
            case 3 -> new Burst();
            case 4 -> new Shy();
            case 5 -> new Daemon();
            default -> new Told();
        };
        c.kind = kind;
        c.v = v;
        return c;
    }

    /** All that the image keeps. */
    static final class All {
        int currencies = 1;
        List<Ticket> tickets = new ArrayList<>();
        List<Client> clients = new ArrayList<>();
        int clock;
        int lowered;
        List<int[]> seen = new ArrayList<>();
        List<int[]> plan = new ArrayList<>();
        List<int[]> book = new ArrayList<>();

        All copy() {
            All a = new All();
            a.currencies = currencies;
            for (Ticket t : tickets) {
                a.tickets.add(t.copy());
            }
            for (Client c : clients) {
                a.clients.add(c.copy());
            }
            a.clock = clock;
            a.lowered = lowered;
            a.seen.addAll(seen);
            a.plan.addAll(plan);
            a.book.addAll(book);
            return a;
        }

        long issued(int currency) {
            return tickets.stream().filter(t -> t.currency == currency && t.placed()).mapToLong(t -> t.amount).sum();
        }

        long value(int currency) {
            long sum = 0;
            for (Ticket t : tickets) {
                if (t.backed == currency) {
                    sum += worth(t);
                }
            }
            return sum;
        }

        long worth(Ticket t) {
            if (t.currency == 0) {
                return t.amount;
            }
            long issued = issued(t.currency);
            return issued == 0 ? 0 : t.amount * value(t.currency) / issued;
        }

        boolean hangs(int one, int other) {
            for (Ticket t : tickets) {
                if (t.backed == one && (t.currency == other || hangs(t.currency, other))) {
                    return true;
                }
            }
            return false;
        }

        long share(int p) {
            long sum = 0;
            for (Ticket t : tickets) {
                if (t.holder == p) {
                    sum += worth(t);
                }
            }
            for (int q = 0; q < clients.size(); q++) {
                if (clients.get(q).waiting == p) {
                    sum += share(q);
                }
            }
            return sum;
        }

        long weight(int p) {
            return 10 * share(p) / clients.get(p).used;
        }

        boolean ready(int p) {
            Client c = clients.get(p);
            boolean awaited = clients.stream().anyMatch(o -> o.waiting == p);
            return c.waiting == -5 && weight(p) > 0 && (!c.serves() || awaited);
        }

        long total() {
            long sum = 0;
            for (int p = 0; p < clients.size(); p++) {
                if (ready(p)) {
                    sum += weight(p);
                }
            }
            return sum;
        }

        int stride(int p) {
            return (int) Math.max(1, 100000000L / weight(p));
        }

        int next() {
            int best = -5;
            for (int p = clients.size() - 1; p >= 0; p--) {
                if (ready(p) && (best == -5 || clients.get(p).pass <= clients.get(best).pass)) {
                    best = p;
                }
            }
            return best;
        }

        void quantum(int p) {
            if (p == -5) {
                clock += 10;
            } else {
                Client c = clients.get(p);
                int parts = c.parts(clock);
                c.ran += parts;
                c.used = parts;
                clock += parts;
            }
        }

        int drawn(int z) {
            int winner = -5;
            long total = total();
            if (total > 0) {
                long number = Integer.toUnsignedLong(z) / 2 % total;
                for (int p = 0; p < clients.size() && winner == -5; p++) {
                    if (ready(p)) {
                        number -= weight(p);
                        if (number < 0) {
                            winner = p;
                        }
                    }
                }
            }
            quantum(winner);
            return winner;
        }

        int byPasses() {
            int p = next();
            if (p != -5) {
                Client c = clients.get(p);
                int stride = stride(p);
                if (BigInteger.valueOf(c.pass).add(BigInteger.valueOf(stride)).bitLength() > 31) {
                    int less = c.pass;
                    for (Client o : clients) {
                        o.pass = o.pass > less ? o.pass - less : 0;
                    }
                    lowered++;
                }
                c.pass += stride;
            }
            quantum(p);
            return p;
        }

        int draws(int seed, int n) {
            int latest = -5;
            int z = seed;
            for (int k = 0; k < n; k++) {
                z = z * 1103515245 + 12345;
                latest = drawn(z);
            }
            return latest;
        }

        int strides(int n) {
            int latest = -5;
            for (int k = 0; k < n; k++) {
                latest = byPasses();
            }
            return latest;
        }

        boolean seenBy(int seed) {
            int[] whose = new int[13];
            All a = copy();
            int z = seed;
            for (int n = 1; n <= 12; n++) {
                z = z * 1103515245 + 12345;
                whose[n] = a.drawn(z);
            }
            return seen.stream().allMatch(s -> whose[s[1]] == s[0]);
        }

        int ranOfAll() {
            return clients.stream().mapToInt(c -> c.ran).sum();
        }

        boolean has(int p) {
            return p >= 0 && p < clients.size();
        }

        boolean hasTicket(int t) {
            return t >= 0 && t < tickets.size();
        }
    }

    private All all = new All();
    private All image;
    private String text = "";
    private final int[] sorts = {-1, -1, -1, -1, -1, -1};
    private final long[][] tapes = new long[6][0];

    // ---- currencies, tickets, clients

    public int currency() {
        return all.currencies == 6 ? FULL : all.currencies++;
    }

    public int ticket(int currency, int amount) {
        if (currency < 0 || currency >= all.currencies) {
            return NONE;
        }
        if (amount < 1 || amount > 9999) {
            return BAD;
        }
        if (all.tickets.size() == 24) {
            return FULL;
        }
        Ticket t = new Ticket();
        t.currency = currency;
        t.amount = amount;
        all.tickets.add(t);
        return all.tickets.size() - 1;
    }

    public int client(int kind, int v) {
        if (kind < 0 || kind > 6) {
            return NONE;
        }
        if (v < 0 || v > 9) {
            return BAD;
        }
        if (all.clients.size() == 8) {
            return FULL;
        }
        Client c = made(kind, v);
        c.pass = all.clients.stream().mapToInt(o -> o.pass).min().orElse(0);
        all.clients.add(c);
        return all.clients.size() - 1;
    }

    public int amount(int ticket, int n) {
        if (!all.hasTicket(ticket)) {
            return NONE;
        }
        if (n < 1 || n > 9999) {
            return BAD;
        }
        int was = all.tickets.get(ticket).amount;
        all.tickets.get(ticket).amount = n;
        return was;
    }

    public int give(int ticket, int client) {
        if (!all.hasTicket(ticket) || client != -1 && !all.has(client)) {
            return NONE;
        }
        Ticket t = all.tickets.get(ticket);
        int was = t.who();
        t.free();
        t.holder = client;
        return was;
    }

    public int back(int ticket, int currency) {
        if (!all.hasTicket(ticket) || currency < 0 || currency >= all.currencies) {
            return NONE;
        }
        if (currency == 0) {
            return STATE;
        }
        All then = all.copy();
        Ticket t = then.tickets.get(ticket);
        t.free();
        if (t.currency == currency || then.hangs(t.currency, currency)) {
            return STATE;
        }
        int was = all.tickets.get(ticket).who();
        all.tickets.get(ticket).free();
        all.tickets.get(ticket).backed = currency;
        return was;
    }

    public int waits(int client, int other) {
        if (!all.has(client) || other != -1 && !all.has(other)) {
            return NONE;
        }
        for (int at = other; at >= 0; at = all.clients.get(at).waiting) {
            if (at == client) {
                return STATE;
            }
        }
        int was = all.clients.get(client).waiting;
        all.clients.get(client).waiting = other == -1 ? -5 : other;
        return was;
    }

    public int row(int client, int part, int n) {
        if (!all.has(client) || part < 0 || part > 3) {
            return NONE;
        }
        if (n < 0 || n > 9) {
            return BAD;
        }
        if (!(all.clients.get(client) instanceof Told told)) {
            return STATE;
        }
        int was = told.row[part];
        told.row[part] = n;
        return was;
    }

    public int of(int client, int what) {
        if (!all.has(client)) {
            return NONE;
        }
        Client c = all.clients.get(client);
        return switch (what) {
            case 0 -> c.kind;
            case 1 -> c.v;
            case 2 -> c.ran;
            case 3 -> c.used;
            case 4 -> c.pass;
            case 5 -> c.waiting;
            case 6 -> all.ready(client) ? 1 : 0;
            case 7 -> c.parts(all.clock);
            case 8 -> all.weight(client) == 0 ? -5 : all.stride(client);
            default -> NONE;
        };
    }

    public int card(int ticket, int what) {
        if (!all.hasTicket(ticket)) {
            return NONE;
        }
        Ticket t = all.tickets.get(ticket);
        return what == 0 ? t.currency : what == 1 ? t.amount : what == 2 ? t.who() : NONE;
    }

    public long worth(int what, int n) {
        boolean currency = n >= 0 && n < all.currencies;
        return switch (what) {
            case 0 -> all.hasTicket(n) ? all.worth(all.tickets.get(n)) : NO;
            case 1 -> currency ? all.value(n) : NO;
            case 2 -> currency ? all.issued(n) : NO;
            case 3 -> all.has(n) ? all.share(n) : NO;
            case 4 -> all.has(n) ? all.weight(n) : NO;
            case 5 -> all.total();
            default -> NO;
        };
    }

    public int needs(int currency, int what) {
        if (currency < 0 || currency >= all.currencies || what != 0 && what != 1) {
            return NONE;
        }
        int bits = 0;
        if (what == 0) {
            for (int c = 0; c < all.currencies; c++) {
                bits |= all.hangs(currency, c) ? 1 << c : 0;
            }
            return bits;
        }
        for (Ticket t : all.tickets) {
            if (t.holder >= 0 && (t.currency == currency || all.hangs(t.currency, currency))) {
                bits |= 1 << t.holder;
            }
        }
        return bits;
    }

    /** Every number of as many digits, from the least up, till one is a row of all CURRENCIES as told. */
    public int order() {
        List<Integer> none = new ArrayList<>();
        return firstRow(none);
    }

    private int firstRow(List<Integer> row) {
        if (row.size() == all.currencies) {
            for (int i = 0; i < row.size(); i++) {
                for (int j = i + 1; j < row.size(); j++) {
                    if (all.hangs(row.get(i), row.get(j))) {
                        return -1;
                    }
                }
            }
            return row.stream().reduce(0, (n, c) -> n * 10 + c);
        }
        for (int c = 0; c < all.currencies; c++) {
            if (!row.contains(c)) {
                row.add(c);
                int found = firstRow(row);
                row.remove(row.size() - 1);
                if (found >= 0) {
                    return found;
                }
            }
        }
        return -1;
    }

    // ---- texts

    private static final String FUND = "[0-9]{1,4}c[0-9]";
    private static final String CLAUSE = "[pc][0-9]<" + FUND + "(\\+" + FUND + ")*";
    private static final Pattern FUNDS = Pattern.compile(CLAUSE + "(;" + CLAUSE + "){0,7}");

    public int feed(int sign) {
        if (sign < 0 || sign > 127) {
            return BAD;
        }
        if (text.length() == 100) {
            return FULL;
        }
        text += (char) sign;
        return text.length();
    }

    public int fund() {
        String funds = text;
        text = "";
        for (int i = 0; i < funds.length(); i++) {
            Matcher m = FUNDS.matcher(funds.substring(0, i + 1));
            if (!m.matches() && !m.hitEnd()) {
                return -10 - i;
            }
        }
        if (!FUNDS.matcher(funds).matches()) {
            return -10 - funds.length();
        }
        int came = 0;
        for (String clause : funds.split(";")) {
            String[] sides = clause.split("<");
            int who = sides[0].charAt(1) - '0';
            for (String fund : sides[1].split("\\+")) {
                String[] parts = fund.split("c");
                All before = all.copy();
                int t = ticket(Integer.parseInt(parts[1]), Integer.parseInt(parts[0]));
                boolean ok = t >= 0 && (sides[0].charAt(0) == 'p' ? give(t, who) : back(t, who)) == -5;
                if (ok) {
                    came++;
                } else {
                    all = before;
                }
            }
        }
        return came;
    }

    // ---- quanta

    public int draw(int seed, int n) {
        if (n < 0 || n > 40) {
            return BAD;
        }
        return all.clock + 10 * n > 99999 ? STATE : all.draws(seed, n);
    }

    public int stride(int n) {
        if (n < 0 || n > 40) {
            return BAD;
        }
        return all.clock + 10 * n > 99999 ? STATE : all.strides(n);
    }

    public int told(int what) {
        int bits = 0;
        for (int p = 0; p < all.clients.size(); p++) {
            bits |= all.ready(p) ? 1 << p : 0;
        }
        return what == 0 ? all.clock : what == 1 ? all.lowered : what == 2 ? all.next() : what == 3 ? bits : NONE;
    }

    public int on(int seed, int n, int what) {
        if (what != 0 && !(what >= 10 && what < 18 && all.has(what - 10))) {
            return NONE;
        }
        if (n < 0 || n > 40) {
            return BAD;
        }
        All a = all.copy();
        int latest = a.draws(seed, n);
        return what == 0 ? latest : a.clients.get(what - 10).ran;
    }

    public int by(int n, int what) {
        boolean ran = what >= 10 && what < 18 && all.has(what - 10);
        boolean pass = what >= 30 && what < 38 && all.has(what - 30);
        if (what != 0 && what != 1 && !ran && !pass) {
            return NONE;
        }
        if (n < 0 || n > 40) {
            return BAD;
        }
        All a = all.copy();
        int latest = a.strides(n);
        return ran ? a.clients.get(what - 10).ran : pass ? a.clients.get(what - 30).pass : what == 0 ? latest : a.next();
    }

    private static long lowest(long above, long below, int part) {
        if (below == 0 || part != 0 && part != 1) {
            return NO;
        }
        BigInteger a = BigInteger.valueOf(above);
        BigInteger b = BigInteger.valueOf(below);
        BigInteger g = a.gcd(b);
        return (part == 0 ? a : b).divide(g).longValueExact();
    }

    public long lag(int client, int n, int part) {
        if (!all.has(client) || n < 0 || n > 40) {
            return NO;
        }
        All a = all.copy();
        a.strides(n);
        long got = a.clients.get(client).ran - all.clients.get(client).ran;
        return lowest(got * all.total() - all.weight(client) * (a.clock - all.clock), all.total(), part);
    }

    public int best(int client, int what) {
        if (!all.has(client) || what != 0 && !(what >= 10 && what < 34 && all.hasTicket(what - 10))) {
            return NONE;
        }
        int found = -5;
        if (what == 0) {
            long least = Long.MAX_VALUE;
            for (int t = 0; t < all.tickets.size(); t++) {
                All a = all.copy();
                a.tickets.get(t).free();
                if (a.weight(client) < least) {
                    least = a.weight(client);
                    found = t;
                }
            }
            return found;
        }
        All a = all.copy();
        for (int n = 200; n >= 1; n--) {
            a.tickets.get(what - 10).amount = n;
            if (a.ready(client) && 2 * a.weight(client) >= a.total()) {
                found = n;
            }
        }
        return found;
    }

    // ---- seen, odds

    private static int add(List<int[]> rows, int one, int two, int most) {
        if (rows.size() == most) {
            return FULL;
        }
        rows.add(new int[] {one, two});
        return rows.size();
    }

    public int see(int client, int n) {
        if (client == -1) {
            all.seen.clear();
            return 0;
        }
        if (!all.has(client)) {
            return NONE;
        }
        return n < 1 || n > 12 ? BAD : add(all.seen, client, n, 5);
    }

    public int seeds() {
        int bits = 0;
        for (int seed = 0; seed <= 30; seed++) {
            bits |= all.seenBy(seed) ? 1 << seed : 0;
        }
        return bits;
    }

    public int can(int client, int seed, int what) {
        if (!all.has(client) || what != 0 && what != 1) {
            return NONE;
        }
        int many = 0;
        int least = -5;
        for (int v = 0; v <= 9; v++) {
            All a = all.copy();
            a.clients.get(client).v = v;
            if (a.seenBy(seed)) {
                many++;
                least = least == -5 ? v : least;
            }
        }
        return what == 0 ? many : least;
    }

    public long odds(int client, int part) {
        return all.has(client) ? lowest(all.ready(client) ? all.weight(client) : 0, all.total(), part) : NO;
    }

    public long mean(int part) {
        return lowest(all.ranOfAll(), all.clients.size(), part);
    }

    // ---- plans, books

    public int plan(int what, int n) {
        if (what == -1) {
            all.plan.clear();
            return 0;
        }
        boolean there = what == 0 || (what == 1 || what == 3) && all.hasTicket(n) || what == 2 && all.has(n);
        return there ? add(all.plan, what, n, 10) : NONE;
    }

    public int ends(int what) {
        All a = all.copy();
        for (int[] r : all.plan) {
            switch (r[0]) {
                case 0 -> a.byPasses();
                case 1 -> a.tickets.get(r[1]).free();
                case 2 -> a.clients.get(r[1]).waiting = -5;
                default -> a.tickets.get(r[1]).amount = Math.min(9999, 2 * a.tickets.get(r[1]).amount);
            }
        }
        return what == 0 ? a.clock : what == 1 ? a.ranOfAll() : what == 2 ? a.next() : NONE;
    }

    public int book(int client, int ran) {
        if (client == -1) {
            all.book.clear();
            return 0;
        }
        if (!all.has(client)) {
            return NONE;
        }
        return ran < 0 ? BAD : add(all.book, client, ran, 8);
    }

    public int looked() {
        for (int[] r : all.book) {
            if (all.clients.get(r[0]).ran != r[1]) {
                return all.book.indexOf(r);
            }
        }
        return -5;
    }

    // ---- judging, the image, tapes

    private static boolean isTape(int n) {
        return n >= 0 && n < 6;
    }

    public int judge(int tape, int i) {
        if (!isTape(tape)) {
            return NONE;
        }
        if (sorts[tape] != -1 && sorts[tape] != 3) {
            return -12;
        }
        for (int k = 0; k < all.tickets.size(); k++) {
            long place = (long) i + k;
            if (i < 0 || place >= tapes[tape].length) {
                return 100 + k;
            }
            if (tapes[tape][(int) place] != all.worth(all.tickets.get(k))) {
                return k;
            }
        }
        return -5;
    }

    public int image() {
        image = all.copy();
        return all.clients.size();
    }

    public int undo() {
        if (image == null) {
            return STATE;
        }
        all = image.copy();
        return all.clients.size();
    }

    public int taken(int client, int k) {
        if (k < 0 || k > 6) {
            return BAD;
        }
        if (!all.has(client)) {
            return -11;
        }
        Client c = all.clients.get(client);
        return CLASSES[k].isInstance(c) ? c.kind : -12;
    }

    public int count(int what) {
        return switch (what) {
            case 0 -> all.currencies;
            case 1 -> all.tickets.size();
            case 2 -> all.clients.size();
            case 3 -> all.seen.size();
            case 4 -> all.plan.size();
            case 5 -> all.book.size();
            case 6 -> text.length();
            default -> BAD;
        };
    }

    public int tape(int tape, int sort, int n) {
        if (!isTape(tape)) {
            return NONE;
        }
        if (sort == -1) {
            sorts[tape] = -1;
            tapes[tape] = new long[0];
            return 1;
        }
        if (sort < 0 || sort > 4 || n > 60) {
            return BAD;
        }
        if (n < 0) {
            return -14;
        }
        sorts[tape] = sort;
        tapes[tape] = new long[n];
        return 1;
    }

    public int item(int tape, int i, long v) {
        if (!isTape(tape)) {
            return NONE;
        }
        if (sorts[tape] == -1) {
            return -11;
        }
        if (i < 0 || i >= tapes[tape].length) {
            return -13;
        }
        tapes[tape][i] = switch (sorts[tape]) {
            case 0 -> (byte) v;
            case 1 -> (short) v;
            case 2 -> (int) v;
            case 3 -> v;
            default -> v == 0 ? 0 : 1;
        };
        return 1;
    }

    public long read(int tape, int i) {
        return isTape(tape) && i >= 0 && i < tapes[tape].length ? tapes[tape][i] : NO;
    }

    public int shift(int tape, int i, int other, int j, int n) {
        if (!isTape(tape) || !isTape(other)) {
            return NONE;
        }
        if (sorts[tape] == -1 || sorts[other] == -1) {
            return -11;
        }
        if (sorts[tape] != sorts[other]) {
            return -12;
        }
        boolean fits = n >= 0 && i >= 0 && j >= 0
                && (long) i + n <= tapes[tape].length && (long) j + n <= tapes[other].length;
        if (!fits) {
            return -13;
        }
        long[] before = tapes[tape].clone();
        for (int k = 0; k < n; k++) {
            tapes[other][j + k] = before[i + k];
        }
        return n;
    }
}

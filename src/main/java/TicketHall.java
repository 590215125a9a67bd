import java.util.Arrays;

/** Scheduler by tickets; the promises that it keeps are told in ../shared/DOC.md. */
public final class TicketHall {
    public static final int NONE = -1, BAD = -2, STATE = -3, FULL = -4;
    public static final long NO = Long.MIN_VALUE;

    private static final int NOBODY = -5;
    private static final int NOTHING = -11, CAST = -12, PLACE = -13, SIZE = -14;

    private static final int MOST_CURRENCIES = 6, MOST_TICKETS = 24, MOST_CLIENTS = 8;
    private static final int MOST_AMOUNT = 9999, MOST_RAISE = 200, MOST_DIGIT = 9;
    private static final int MOST_QUANTA = 40, MOST_CLOCK = 99999, MOST_SEEDS = 31;
    private static final int MOST_SEEN = 5, MOST_AHEAD = 12, MOST_PLAN = 10, MOST_BOOK = 8;
    private static final int MOST_TEXT = 100, MOST_TAPES = 6, MOST_ITEMS = 60, MOST_INT = 2147483647;

    private static final int BASE = 0;
    /** From this number on, who has a TICKET is a CURRENCY: so give() and back() answer it. */
    private static final int BACKED = 10;

    private static final int YIELDER = 1, SERVER = 2, BURST = 3, SHY = 4, DAEMON = 5, TOLD = 6;
    /** The KIND that each KIND is under. */
    private static final int[] UNDER = {-1, 0, 0, 0, YIELDER, SERVER, BURST};
    private static final int MOST_KIND = 6, ROW_PARTS = 4, WHOLE = 10;

    private static final int BYTES = 0, SHORTS = 1, INTS = 2, LONGS = 3, BOOLEANS = 4, EMPTY = -1;

    private static final int PLAN_QUANTUM = 0, PLAN_TAKE = 1, PLAN_WAKE = 2, PLAN_TWICE = 3;

    private final Hall live = new Hall();
    private final Dealer now = new Dealer(live);
    /** What is asked is tried here, so that it changes nothing, and no call makes an object. */
    private final Hall trial = new Hall();
    private final Dealer then = new Dealer(trial);
    private final Hall kept = new Hall();
    private boolean imaged;

    private final byte[] text = new byte[MOST_TEXT];
    private int textLength;
    private final FundReader reader = new FundReader();
    private final Tape[] tapes = new Tape[MOST_TAPES];

    public TicketHall() {
        for (int i = 0; i < MOST_TAPES; i++) {
            tapes[i] = new Tape();
        }
    }

    // ---- currencies, tickets, clients

    public int currency() {
        if (live.currencies >= MOST_CURRENCIES) {
            return FULL;
        }
        live.currencies++;
        return live.currencies - 1;
    }

    public int ticket(int currency, int amount) {
        if (!live.hasCurrency(currency)) {
            return NONE;
        }
        if (!isAmount(amount)) {
            return BAD;
        }
        if (live.tickets >= MOST_TICKETS) {
            return FULL;
        }
        return live.addTicket(currency, amount, NOBODY);
    }

    public int client(int kind, int v) {
        if (!isKind(kind)) {
            return NONE;
        }
        if (!isDigit(v)) {
            return BAD;
        }
        if (live.clients >= MOST_CLIENTS) {
            return FULL;
        }
        return live.addClient(kind, v);
    }

    public int amount(int ticket, int n) {
        if (!live.hasTicket(ticket)) {
            return NONE;
        }
        if (!isAmount(n)) {
            return BAD;
        }
        int was = live.amounts[ticket];
        live.amounts[ticket] = n;
        return was;
    }

    public int give(int ticket, int client) {
        if (!live.hasTicket(ticket) || client != -1 && !live.hasClient(client)) {
            return NONE;
        }
        int was = live.owners[ticket];
        live.owners[ticket] = client == -1 ? NOBODY : client;
        return was;
    }

    public int back(int ticket, int currency) {
        if (!live.hasTicket(ticket) || !live.hasCurrency(currency)) {
            return NONE;
        }
        if (!live.mayBack(live.currencyOf[ticket], currency, ticket)) {
            return STATE;
        }
        int was = live.owners[ticket];
        live.owners[ticket] = BACKED + currency;
        return was;
    }

    public int waits(int client, int other) {
        if (!live.hasClient(client) || other != -1 && !live.hasClient(other)) {
            return NONE;
        }
        if (other != -1 && live.waitsLeadTo(other, client)) {
            return STATE;
        }
        int was = live.waiting[client];
        live.waiting[client] = other == -1 ? NOBODY : other;
        return was;
    }

    public int row(int client, int part, int n) {
        if (!live.hasClient(client) || part < 0 || part >= ROW_PARTS) {
            return NONE;
        }
        if (!isDigit(n)) {
            return BAD;
        }
        if (live.kinds[client] != TOLD) {
            return STATE;
        }
        int place = client * ROW_PARTS + part;
        int was = live.rows[place];
        live.rows[place] = n;
        return was;
    }

    public int of(int client, int what) {
        if (!live.hasClient(client)) {
            return NONE;
        }
        switch (what) {
            case 0: return live.kinds[client];
            case 1: return live.numbers[client];
            case 2: return live.ran[client];
            case 3: return live.used[client];
            case 4: return live.passes[client];
            case 5: return live.waiting[client];
            case 7: return live.partsOf(client);
            default: return weighedOf(client, what);
        }
    }

    /** What of() answers only after all TICKETS have been valued. */
    private int weighedOf(int client, int what) {
        if (what != 6 && what != 8) {
            return NONE;
        }
        now.refresh();
        if (what == 8) {
            return now.strideOf(client);
        }
        return now.isReady(client) ? 1 : 0;
    }

    public int card(int ticket, int what) {
        if (!live.hasTicket(ticket)) {
            return NONE;
        }
        switch (what) {
            case 0: return live.currencyOf[ticket];
            case 1: return live.amounts[ticket];
            case 2: return live.owners[ticket];
            default: return NONE;
        }
    }

    public long worth(int what, int n) {
        now.refresh();
        switch (what) {
            case 0: return live.hasTicket(n) ? now.worths.worths[n] : NO;
            case 1: return live.hasCurrency(n) ? now.worths.values[n] : NO;
            case 2: return live.hasCurrency(n) ? now.worths.issued[n] : NO;
            case 3: return live.hasClient(n) ? now.worths.shares[n] : NO;
            case 4: return live.hasClient(n) ? now.weights[n] : NO;
            case 5: return now.total;
            default: return NO;
        }
    }

    public int needs(int currency, int what) {
        if (!live.hasCurrency(currency) || what < 0 || what > 1) {
            return NONE;
        }
        return what == 0 ? live.hangsOn(currency, NOBODY) : live.holdersAbove(currency);
    }

    public int order() {
        now.worths.arrange();
        int digits = 0;
        for (int k = 0; k < live.currencies; k++) {
            digits = digits * 10 + now.worths.line[k];
        }
        return digits;
    }

    // ---- texts

    public int feed(int sign) {
        if (sign < 0 || sign > 127) {
            return BAD;
        }
        if (textLength >= MOST_TEXT) {
            return FULL;
        }
        text[textLength] = (byte) sign;
        textLength++;
        return textLength;
    }

    public int fund() {
        int fault = faultOfText();
        int answer = fault < 0 ? takeFunds() : -10 - fault;
        textLength = 0;
        return answer;
    }

    /** Read to its end ahead of any TICKET, for a FAULT at the end must leave all as it was; -1: none. */
    private int faultOfText() {
        reader.begin();
        for (int i = 0; i < textLength; i++) {
            if (!reader.takes(text[i])) {
                return i;
            }
        }
        return reader.atFundsEnd() ? -1 : textLength;
    }

    private int takeFunds() {
        int came = 0;
        reader.begin();
        for (int i = 0; i < textLength; i++) {
            if (reader.takes(text[i]) && reader.atFundsEnd() && takeFund()) {
                came++;
            }
        }
        return came;
    }

    private boolean takeFund() {
        int currency = reader.currency;
        if (!live.hasCurrency(currency) || !isAmount(reader.amount) || live.tickets >= MOST_TICKETS) {
            return false;
        }
        if (reader.forClient ? !live.hasClient(reader.who) : !live.mayBack(currency, reader.who, NOBODY)) {
            return false;
        }
        live.addTicket(currency, reader.amount, reader.forClient ? reader.who : BACKED + reader.who);
        return true;
    }

    // ---- quanta

    public int draw(int seed, int n) {
        if (!isRun(n)) {
            return BAD;
        }
        if (live.clock + WHOLE * n > MOST_CLOCK) {
            return STATE;
        }
        now.refresh();
        return now.drawFrom(seed, n);
    }

    public int stride(int n) {
        if (!isRun(n)) {
            return BAD;
        }
        if (live.clock + WHOLE * n > MOST_CLOCK) {
            return STATE;
        }
        now.refresh();
        return now.goByPasses(n);
    }

    public int told(int what) {
        now.refresh();
        switch (what) {
            case 0: return live.clock;
            case 1: return live.lowered;
            case 2: return now.nextByPasses();
            case 3: return now.ready;
            default: return NONE;
        }
    }

    public int on(int seed, int n, int what) {
        if (what != 0 && !live.hasClient(what - 10)) {
            return NONE;
        }
        if (!isRun(n)) {
            return BAD;
        }
        beginTrial();
        int latest = then.drawFrom(seed, n);
        return what == 0 ? latest : trial.ran[what - 10];
    }

    public int by(int n, int what) {
        boolean asksRan = live.hasClient(what - 10);
        boolean asksPass = live.hasClient(what - 30);
        if (what != 0 && what != 1 && !asksRan && !asksPass) {
            return NONE;
        }
        if (!isRun(n)) {
            return BAD;
        }
        beginTrial();
        int latest = then.goByPasses(n);
        if (asksRan) {
            return trial.ran[what - 10];
        }
        if (asksPass) {
            return trial.passes[what - 30];
        }
        return what == 0 ? latest : then.nextByPasses();
    }

    public long lag(int client, int n, int part) {
        if (!live.hasClient(client) || !isRun(n) || !isPart(part)) {
            return NO;
        }
        beginTrial();
        long weight = then.weights[client];
        long total = then.total;
        if (total <= 0) {
            return NO;
        }
        then.goByPasses(n);
        long got = trial.ran[client] - live.ran[client];
        long grown = trial.clock - live.clock;
        return fraction(got * total - weight * grown, total, part);
    }

    public int best(int client, int what) {
        if (!live.hasClient(client) || what != 0 && !live.hasTicket(what - 10)) {
            return NONE;
        }
        return what == 0 ? lossOf(client) : raiseOf(client, what - 10);
    }

    private int lossOf(int client) {
        beginTrial();
        int found = NOBODY;
        long least = 0;
        for (int t = 0; t < trial.tickets; t++) {
            int owner = trial.owners[t];
            trial.owners[t] = NOBODY;
            then.refresh();
            if (found == NOBODY || then.weights[client] < least) {
                found = t;
                least = then.weights[client];
            }
            trial.owners[t] = owner;
        }
        return found;
    }

    private int raiseOf(int client, int ticket) {
        beginTrial();
        // What nobody has is worth nothing to anyone, so one AMOUNT tells for all.
        int most = trial.owners[ticket] == NOBODY ? 1 : MOST_RAISE;
        for (int amount = 1; amount <= most; amount++) {
            trial.amounts[ticket] = amount;
            then.revalue();
            if (then.isReady(client) && 2 * then.weights[client] >= then.total) {
                return amount;
            }
        }
        return NOBODY;
    }

    // ---- seen, odds

    public int see(int client, int n) {
        if (client == -1) {
            return live.seen.emptied();
        }
        if (!live.hasClient(client)) {
            return NONE;
        }
        if (n < 1 || n > MOST_AHEAD) {
            return BAD;
        }
        return live.seen.added(client, n);
    }

    public int seeds() {
        int found = 0;
        for (int seed = 0; seed < MOST_SEEDS; seed++) {
            beginTrial();
            if (then.drawsAsSeen(seed)) {
                found |= 1 << seed;
            }
        }
        return found;
    }

    public int can(int client, int seed, int what) {
        if (!live.hasClient(client) || what < 0 || what > 1) {
            return NONE;
        }
        int many = 0;
        int least = NOBODY;
        for (int v = MOST_DIGIT; v >= 0; v--) {
            beginTrial();
            trial.numbers[client] = v;
            if (then.drawsAsSeen(seed)) {
                many++;
                least = v;
            }
        }
        return what == 0 ? many : least;
    }

    public long odds(int client, int part) {
        if (!live.hasClient(client) || !isPart(part)) {
            return NO;
        }
        now.refresh();
        return fraction(now.isReady(client) ? now.weights[client] : 0, now.total, part);
    }

    public long mean(int part) {
        return isPart(part) ? fraction(live.ranOfAll(), live.clients, part) : NO;
    }

    // ---- plans, books

    public int plan(int what, int n) {
        if (what == -1) {
            return live.plan.emptied();
        }
        if (what < PLAN_QUANTUM || what > PLAN_TWICE) {
            return NONE;
        }
        if ((what == PLAN_TAKE || what == PLAN_TWICE) && !live.hasTicket(n)) {
            return NONE;
        }
        if (what == PLAN_WAKE && !live.hasClient(n)) {
            return NONE;
        }
        return live.plan.added(what, n);
    }

    public int ends(int what) {
        if (what < 0 || what > 2) {
            return NONE;
        }
        beginTrial();
        for (int k = 0; k < trial.plan.size; k++) {
            goOnePlanned(trial.plan.first[k], trial.plan.second[k]);
        }
        if (what == 2) {
            return then.nextByPasses();
        }
        return what == 0 ? trial.clock : trial.ranOfAll();
    }

    private void goOnePlanned(int what, int n) {
        if (what == PLAN_QUANTUM) {
            then.quantumByPasses();
            return;
        }
        if (what == PLAN_WAKE && trial.hasClient(n)) {
            trial.waiting[n] = NOBODY;
        }
        if (what == PLAN_TAKE && trial.hasTicket(n)) {
            trial.owners[n] = NOBODY;
        }
        if (what == PLAN_TWICE && trial.hasTicket(n)) {
            trial.amounts[n] = Math.min(2 * trial.amounts[n], MOST_AMOUNT);
        }
        then.refresh();
    }

    public int book(int client, int ran) {
        if (client == -1) {
            return live.book.emptied();
        }
        if (!live.hasClient(client)) {
            return NONE;
        }
        if (ran < 0) {
            return BAD;
        }
        return live.book.added(client, ran);
    }

    public int looked() {
        for (int k = 0; k < live.book.size; k++) {
            int client = live.book.first[k];
            if (live.hasClient(client) && live.ran[client] != live.book.second[k]) {
                return k;
            }
        }
        return NOBODY;
    }

    // ---- judging, the image, tapes

    public int judge(int tape, int i) {
        if (!isTape(tape)) {
            return NONE;
        }
        Tape row = tapes[tape];
        if (row.sort != EMPTY && row.sort != LONGS) {
            return CAST;
        }
        now.refresh();
        for (int t = 0; t < live.tickets; t++) {
            if (i < 0 || i >= row.size - t) {
                return 100 + t;
            }
            if (row.items[i + t] != now.worths.worths[t]) {
                return t;
            }
        }
        return NOBODY;
    }

    public int image() {
        kept.takeFrom(live);
        imaged = true;
        return live.clients;
    }

    public int undo() {
        if (!imaged) {
            return STATE;
        }
        live.takeFrom(kept);
        return live.clients;
    }

    public int taken(int client, int k) {
        if (!isKind(k)) {
            return BAD;
        }
        if (!live.hasClient(client)) {
            return NOTHING;
        }
        return live.isOf(client, k) ? live.kinds[client] : CAST;
    }

    public int count(int what) {
        switch (what) {
            case 0: return live.currencies;
            case 1: return live.tickets;
            case 2: return live.clients;
            case 3: return live.seen.size;
            case 4: return live.plan.size;
            case 5: return live.book.size;
            case 6: return textLength;
            default: return BAD;
        }
    }

    public int tape(int tape, int sort, int n) {
        if (!isTape(tape)) {
            return NONE;
        }
        if (sort < EMPTY || sort > BOOLEANS || sort != EMPTY && n > MOST_ITEMS) {
            return BAD;
        }
        if (sort != EMPTY && n < 0) {
            return SIZE;
        }
        tapes[tape].become(sort, n);
        return 1;
    }

    public int item(int tape, int i, long v) {
        if (!isTape(tape)) {
            return NONE;
        }
        Tape row = tapes[tape];
        if (row.sort == EMPTY) {
            return NOTHING;
        }
        if (i < 0 || i >= row.size) {
            return PLACE;
        }
        row.items[i] = row.fitted(v);
        return 1;
    }

    public long read(int tape, int i) {
        if (!isTape(tape) || i < 0 || i >= tapes[tape].size) {
            return NO;
        }
        return tapes[tape].items[i];
    }

    public int shift(int tape, int i, int other, int j, int n) {
        if (!isTape(tape) || !isTape(other)) {
            return NONE;
        }
        Tape from = tapes[tape];
        Tape to = tapes[other];
        if (from.sort == EMPTY || to.sort == EMPTY) {
            return NOTHING;
        }
        if (from.sort != to.sort) {
            return CAST;
        }
        if (n < 0 || i < 0 || j < 0 || i > from.size - n || j > to.size - n) {
            return PLACE;
        }
        System.arraycopy(from.items, i, to.items, j, n);
        return n;
    }

    // ---- shared by the calls

    private void beginTrial() {
        trial.takeFrom(live);
        then.refresh();
    }

    private static boolean isAmount(int n) {
        return n >= 1 && n <= MOST_AMOUNT;
    }

    private static boolean isDigit(int n) {
        return n >= 0 && n <= MOST_DIGIT;
    }

    private static boolean isKind(int n) {
        return n >= 0 && n <= MOST_KIND;
    }

    private static boolean isRun(int n) {
        return n >= 0 && n <= MOST_QUANTA;
    }

    private static boolean isPart(int part) {
        return part == 0 || part == 1;
    }

    private static boolean isTape(int n) {
        return n >= 0 && n < MOST_TAPES;
    }

    /** A division cut to a whole number; 0 where there is nothing to divide by. */
    private static long cutBy(long above, long below) {
        return below > 0 ? above / below : 0;
    }

    /** A part of a fraction in lowest terms; NO where nothing stands below the line. */
    private static long fraction(long above, long below, int part) {
        if (below <= 0) {
            return NO;
        }
        long divisor = below;
        long rest = Math.abs(above) % below;
        // Each two steps halve the rest, so a long is through in far fewer than these.
        for (int k = 0; k < 200 && rest > 0; k++) {
            long next = divisor % rest;
            divisor = rest;
            rest = next;
        }
        return cutBy(part == 0 ? above : below, divisor);
    }

    /** Rows of two numbers that are told by hand: SEEN, the PLAN, the BOOK. */
    private static final class HandRows {
        private int size;
        private final int[] first;
        private final int[] second;

        HandRows(int most) {
            first = new int[most];
            second = new int[most];
        }

        int emptied() {
            size = 0;
            return 0;
        }

        int added(int one, int two) {
            if (size >= first.length || size >= second.length) {
                return FULL;
            }
            first[size] = one;
            second[size] = two;
            size++;
            return size;
        }

        void copyRows(HandRows other) {
            size = other.size;
            System.arraycopy(other.first, 0, first, 0, other.size);
            System.arraycopy(other.second, 0, second, 0, other.size);
        }
    }

    /** All that THE IMAGE keeps. */
    private static final class Hall {
        private int currencies = 1;
        private int tickets;
        private int clients;
        private int clock;
        private int lowered;
        private final int[] currencyOf = new int[MOST_TICKETS];
        private final int[] amounts = new int[MOST_TICKETS];
        private final int[] owners = new int[MOST_TICKETS];
        private final int[] kinds = new int[MOST_CLIENTS];
        private final int[] numbers = new int[MOST_CLIENTS];
        private final int[] ran = new int[MOST_CLIENTS];
        private final int[] used = new int[MOST_CLIENTS];
        private final int[] passes = new int[MOST_CLIENTS];
        private final int[] waiting = new int[MOST_CLIENTS];
        private final int[] rows = new int[MOST_CLIENTS * ROW_PARTS];
        private final HandRows seen = new HandRows(MOST_SEEN);
        private final HandRows plan = new HandRows(MOST_PLAN);
        private final HandRows book = new HandRows(MOST_BOOK);

        void takeFrom(Hall other) {
            currencies = other.currencies;
            tickets = other.tickets;
            clients = other.clients;
            clock = other.clock;
            lowered = other.lowered;
            System.arraycopy(other.currencyOf, 0, currencyOf, 0, tickets);
            System.arraycopy(other.amounts, 0, amounts, 0, tickets);
            System.arraycopy(other.owners, 0, owners, 0, tickets);
            System.arraycopy(other.kinds, 0, kinds, 0, clients);
            System.arraycopy(other.numbers, 0, numbers, 0, clients);
            System.arraycopy(other.ran, 0, ran, 0, clients);
            System.arraycopy(other.used, 0, used, 0, clients);
            System.arraycopy(other.passes, 0, passes, 0, clients);
            System.arraycopy(other.waiting, 0, waiting, 0, clients);
            System.arraycopy(other.rows, 0, rows, 0, clients * ROW_PARTS);
            seen.copyRows(other.seen);
            plan.copyRows(other.plan);
            book.copyRows(other.book);
        }

        boolean hasCurrency(int n) {
            return n >= 0 && n < currencies;
        }

        boolean hasTicket(int n) {
            return n >= 0 && n < tickets;
        }

        boolean hasClient(int n) {
            return n >= 0 && n < clients;
        }

        /** Asked for only where there is room for one more. */
        int addTicket(int currency, int amount, int owner) {
            currencyOf[tickets] = currency;
            amounts[tickets] = amount;
            owners[tickets] = owner;
            tickets++;
            return tickets - 1;
        }

        /** Asked for only where there is room; all is set anew, as undo() may have left another's numbers there. */
        int addClient(int kind, int v) {
            int p = clients;
            kinds[p] = kind;
            numbers[p] = v;
            ran[p] = 0;
            used[p] = WHOLE;
            passes[p] = leastPass();
            waiting[p] = NOBODY;
            for (int part = 0; part < ROW_PARTS; part++) {
                rows[p * ROW_PARTS + part] = 0;
            }
            clients++;
            return p;
        }

        private int leastPass() {
            int least = clients > 0 ? passes[0] : 0;
            for (int p = 1; p < clients; p++) {
                least = Math.min(least, passes[p]);
            }
            return least;
        }

        int ranOfAll() {
            int sum = 0;
            for (int p = 0; p < clients; p++) {
                sum += ran[p];
            }
            return sum;
        }

        /** The CURRENCIES of the TICKETS that back any of some CURRENCIES, all as bits; one TICKET does not count. */
        int backersOf(int bits, int without) {
            int found = 0;
            for (int t = 0; t < tickets; t++) {
                if (t != without && owners[t] >= BACKED && (bits >> (owners[t] - BACKED) & 1) != 0) {
                    found |= 1 << currencyOf[t];
                }
            }
            return found;
        }

        int hangsOn(int currency, int without) {
            int found = backersOf(1 << currency, without);
            for (int k = 0; k < MOST_CURRENCIES; k++) {
                found |= backersOf(found, without);
            }
            return found;
        }

        /** Whether a TICKET in one CURRENCY may back another; what it does now does not count. */
        boolean mayBack(int in, int currency, int ticket) {
            if (!hasCurrency(currency) || currency == BASE || currency == in) {
                return false;
            }
            return (hangsOn(in, ticket) >> currency & 1) == 0;
        }

        /** CLIENTS, as bits, that hold TICKETS in a CURRENCY, or in one that hangs on it. */
        int holdersAbove(int currency) {
            int above = 1 << currency;
            for (int c = 0; c < currencies; c++) {
                if ((hangsOn(c, NOBODY) >> currency & 1) != 0) {
                    above |= 1 << c;
                }
            }
            int found = 0;
            for (int t = 0; t < tickets; t++) {
                if (hasClient(owners[t]) && (above >> currencyOf[t] & 1) != 0) {
                    found |= 1 << owners[t];
                }
            }
            return found;
        }

        /** Whether who waits leads from one CLIENT to another; it does to itself. */
        boolean waitsLeadTo(int from, int to) {
            int at = from;
            for (int k = 0; k < MOST_CLIENTS && hasClient(at); k++) {
                if (at == to) {
                    return true;
                }
                at = waiting[at];
            }
            return false;
        }

        /** Whether a CLIENT is of a KIND, or of one under that. */
        boolean isOf(int client, int kind) {
            int at = kinds[client];
            for (int k = 0; k < UNDER.length && at >= 0 && at < UNDER.length; k++) {
                if (at == kind) {
                    return true;
                }
                at = UNDER[at];
            }
            return false;
        }

        int partsOf(int client) {
            int v = numbers[client];
            switch (kinds[client]) {
                case YIELDER: return v + 1;
                case SHY: return Math.max((v + 1) / 2, 1);
                case DAEMON: return WHOLE - v;
                case BURST: return burstParts();
                case TOLD: return Math.max(burstParts() - rows[client * ROW_PARTS + clock % ROW_PARTS], 1);
                default: return WHOLE;
            }
        }

        private int burstParts() {
            return clock / 10 % 2 == 1 ? WHOLE - 5 : WHOLE;
        }

        /** A QUANTUM of a CLIENT, or of none. */
        void spend(int client) {
            if (!hasClient(client)) {
                clock += WHOLE;
                return;
            }
            int parts = partsOf(client);
            ran[client] += parts;
            used[client] = parts;
            clock += parts;
        }

        /** A PASS grows; where it would leave an int, all PASSES are lowered first. */
        void growPass(int client, int by) {
            if ((long) passes[client] + by > MOST_INT) {
                int less = passes[client];
                for (int p = 0; p < clients; p++) {
                    passes[p] = Math.max(passes[p] - less, 0);
                }
                lowered++;
            }
            passes[client] += by;
        }

        /** Whether the n-th QUANTUM from now may be a CLIENT's (or none's), by what is SEEN. */
        boolean isSeenSo(int n, int client) {
            for (int k = 0; k < seen.size; k++) {
                if (seen.second[k] == n && seen.first[k] != client) {
                    return false;
                }
            }
            return true;
        }

        int lastSeen() {
            int last = 0;
            for (int k = 0; k < seen.size; k++) {
                last = Math.max(last, seen.second[k]);
            }
            return last;
        }
    }

    /** What all is worth in a Hall: right from arrange() and reckon() on till TICKETS or waits change. */
    private static final class Worths {
        private final Hall hall;
        /** The CURRENCIES in ORDER, and the TICKETS along that, so that one walk values all. */
        private final int[] line = new int[MOST_CURRENCIES];
        private final int[] along = new int[MOST_TICKETS];
        private final long[] issued = new long[MOST_CURRENCIES];
        private final long[] values = new long[MOST_CURRENCIES];
        private final long[] worths = new long[MOST_TICKETS];
        private final long[] held = new long[MOST_CLIENTS];
        private final long[] shares = new long[MOST_CLIENTS];
        /** CLIENTS, as bits, for which another is WAITING. */
        private int awaited;

        Worths(Hall hall) {
            this.hall = hall;
        }

        /** Lays line and along; AMOUNTS do not matter to these. */
        void arrange() {
            int placed = 0;
            int n = 0;
            for (int k = 0; k < hall.currencies; k++) {
                int currency = firstFree(placed);
                line[k] = currency;
                placed |= 1 << currency;
                for (int t = 0; t < hall.tickets && n < MOST_TICKETS; t++) {
                    if (hall.currencyOf[t] == currency) {
                        along[n] = t;
                        n++;
                    }
                }
            }
        }

        /** The first CURRENCY that is not placed while all that it hangs on is; as none hangs on itself, there is one. */
        private int firstFree(int placed) {
            for (int c = 0; c < hall.currencies; c++) {
                if ((placed >> c & 1) == 0 && (hall.backersOf(1 << c, NOBODY) & ~placed) == 0) {
                    return c;
                }
            }
            return BASE;
        }

        void reckon() {
            Arrays.fill(issued, 0);
            Arrays.fill(values, 0);
            Arrays.fill(held, 0);
            for (int t = 0; t < hall.tickets; t++) {
                if (hall.owners[t] != NOBODY) {
                    issued[hall.currencyOf[t]] += hall.amounts[t];
                }
            }
            for (int k = 0; k < hall.tickets; k++) {
                value(along[k]);
            }
            lend();
        }

        private void value(int ticket) {
            int currency = hall.currencyOf[ticket];
            int owner = hall.owners[ticket];
            long worth = hall.amounts[ticket];
            if (currency != BASE) {
                worth = cutBy(worth * values[currency], issued[currency]);
            }
            worths[ticket] = worth;
            if (hall.hasClient(owner)) {
                held[owner] += worth;
            } else if (hall.hasCurrency(owner - BACKED)) {
                values[owner - BACKED] += worth;
            }
        }

        private void lend() {
            Arrays.fill(shares, 0);
            awaited = 0;
            for (int p = 0; p < hall.clients; p++) {
                int at = p;
                for (int k = 0; k < MOST_CLIENTS && hall.hasClient(at); k++) {
                    shares[at] += held[p];
                    at = hall.waiting[at];
                }
                if (hall.hasClient(hall.waiting[p])) {
                    awaited |= 1 << hall.waiting[p];
                }
            }
        }
    }

    /** Deals the QUANTA of a Hall; WEIGHTS are kept right as QUANTA go. */
    private static final class Dealer {
        private final Hall hall;
        private final Worths worths;
        private final long[] weights = new long[MOST_CLIENTS];
        /** Who is READY, as bits. */
        private int ready;
        private long total;

        Dealer(Hall hall) {
            this.hall = hall;
            this.worths = new Worths(hall);
        }

        /** To be called when anything but AMOUNTS has changed in the Hall. */
        void refresh() {
            worths.arrange();
            revalue();
        }

        /** To be called when AMOUNTS alone have changed in the Hall. */
        void revalue() {
            worths.reckon();
            weigh();
        }

        private void weigh() {
            ready = 0;
            total = 0;
            for (int p = 0; p < hall.clients; p++) {
                weights[p] = cutBy(10 * worths.shares[p], hall.used[p]);
                if (weights[p] > 0 && hall.waiting[p] == NOBODY && mayServe(p)) {
                    ready |= 1 << p;
                    total += weights[p];
                }
            }
        }

        private boolean mayServe(int client) {
            return !hall.isOf(client, SERVER) || (worths.awaited >> client & 1) != 0;
        }

        boolean isReady(int client) {
            return (ready >> client & 1) != 0;
        }

        int strideOf(int client) {
            return weights[client] > 0 ? (int) Math.max(100000000 / weights[client], 1) : NOBODY;
        }

        int nextByPasses() {
            int found = NOBODY;
            for (int p = 0; p < hall.clients; p++) {
                if (isReady(p) && (found == NOBODY || hall.passes[p] < hall.passes[found])) {
                    found = p;
                }
            }
            return found;
        }

        int quantumByPasses() {
            int client = nextByPasses();
            if (client != NOBODY) {
                hall.growPass(client, strideOf(client));
            }
            deal(client);
            return client;
        }

        int goByPasses(int n) {
            int latest = NOBODY;
            for (int k = 0; k < n; k++) {
                latest = quantumByPasses();
            }
            return latest;
        }

        private int quantumDrawn(int z) {
            int client = drawnWith(z);
            deal(client);
            return client;
        }

        private int drawnWith(int z) {
            if (total <= 0) {
                return NOBODY;
            }
            long number = (z >>> 1) % total;
            long sum = 0;
            for (int p = 0; p < hall.clients; p++) {
                if (isReady(p)) {
                    sum += weights[p];
                    if (sum > number) {
                        return p;
                    }
                }
            }
            return NOBODY;
        }

        int drawFrom(int seed, int n) {
            int latest = NOBODY;
            int z = seed;
            for (int k = 0; k < n; k++) {
                z = numberBehind(z);
                latest = quantumDrawn(z);
            }
            return latest;
        }

        boolean drawsAsSeen(int seed) {
            int last = hall.lastSeen();
            int z = seed;
            for (int n = 1; n <= last; n++) {
                z = numberBehind(z);
                if (!hall.isSeenSo(n, quantumDrawn(z))) {
                    return false;
                }
            }
            return true;
        }

        /** The SEED is the last number at first, so even the first draw goes by the number behind it. */
        private static int numberBehind(int z) {
            return z * 1103515245 + 12345;
        }

        private void deal(int client) {
            hall.spend(client);
            weigh();
        }
    }

    /** Reads FUNDS byte by byte. */
    private static final class FundReader {
        private static final int AT_WHO = 0, AT_WHO_DIGIT = 1, AT_LESS = 2, AT_AMOUNT = 3;
        private static final int IN_AMOUNT = 4, AT_CURRENCY = 5, BEHIND_FUND = 6;
        private static final int MOST_CLAUSES = 8, MOST_DIGITS = 4;

        private int place;
        private int clauses;
        private int digits;
        private boolean forClient;
        private int who;
        private int amount;
        private int currency;

        void begin() {
            place = AT_WHO;
            clauses = 1;
        }

        /** Whether FUNDS may end here; then the latest FUND is whole, too. */
        boolean atFundsEnd() {
            return place == BEHIND_FUND;
        }

        /** Whether FUNDS may go on so. */
        boolean takes(int sign) {
            switch (place) {
                case AT_WHO: return takesWho(sign);
                case AT_WHO_DIGIT: return takesWhoDigit(sign);
                case AT_LESS: return goesOn(sign == '<', AT_AMOUNT);
                case AT_AMOUNT: return takesFirstDigit(sign);
                case IN_AMOUNT: return takesDigitOrSign(sign);
                case AT_CURRENCY: return takesCurrency(sign);
                default: return takesBehind(sign);
            }
        }

        private boolean goesOn(boolean fits, int next) {
            if (fits) {
                place = next;
            }
            return fits;
        }

        private boolean takesWho(int sign) {
            forClient = sign == 'p';
            return goesOn(sign == 'p' || sign == 'c', AT_WHO_DIGIT);
        }

        private boolean takesWhoDigit(int sign) {
            who = sign - '0';
            return goesOn(isDigit(who), AT_LESS);
        }

        private boolean takesFirstDigit(int sign) {
            amount = sign - '0';
            digits = 1;
            return goesOn(isDigit(amount), IN_AMOUNT);
        }

        private boolean takesDigitOrSign(int sign) {
            if (sign == 'c') {
                return goesOn(true, AT_CURRENCY);
            }
            if (!isDigit(sign - '0') || digits >= MOST_DIGITS) {
                return false;
            }
            amount = amount * 10 + sign - '0';
            digits++;
            return true;
        }

        private boolean takesCurrency(int sign) {
            currency = sign - '0';
            return goesOn(isDigit(currency), BEHIND_FUND);
        }

        private boolean takesBehind(int sign) {
            if (sign == '+') {
                return goesOn(true, AT_AMOUNT);
            }
            boolean fits = sign == ';' && clauses < MOST_CLAUSES;
            clauses++;
            return goesOn(fits, AT_WHO);
        }
    }

    /** A row of items of a sort, held as longs that are cut to it. */
    private static final class Tape {
        private int sort = EMPTY;
        private int size;
        private final long[] items = new long[MOST_ITEMS];

        void become(int newSort, int n) {
            sort = newSort;
            size = newSort == EMPTY ? 0 : n;
            Arrays.fill(items, 0);
        }

        long fitted(long v) {
            switch (sort) {
                case BYTES: return (byte) v;
                case SHORTS: return (short) v;
                case INTS: return (int) v;
                case BOOLEANS: return v != 0 ? 1 : 0;
                default: return v;
            }
        }
    }
}

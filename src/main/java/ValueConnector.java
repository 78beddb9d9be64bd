/**
 * A connector that passes conditional payments on between the accounts of its peers.
 * The promises that it keeps are numbered in the document DOC.md.
 */
public final class ValueConnector {
    public static final int NONE = -1;
    public static final int NO_ACCOUNT = -1, MALFORMED = -2, FULL = -3, EXPIRED = -4, LARGE = -5,
            PACED = -6, UNREACHABLE = -7, BRIEF = -8, POOR = -9, GREAT = -10;
    public static final int PENDING = 0, FULFILLED = 1, REJECTED = 2, LAPSED = 3;

    private static final int MAX_ACCOUNTS = 8;
    private static final int MAX_ROUTES = 40;
    private static final int MAX_TRANSFERS = 120;
    private static final int MAX_LETTERS = 6;
    private static final int MAX_AMOUNT = 1000000000;
    private static final int MAX_WORTH = 10000;
    private static final int MAX_TICKS = 100000;
    private static final int MAX_UNITS = 1000000;
    private static final int REMEMBERED_KEYS = 8;
    private static final int DROPS_PER_PREPARE = 100;
    private static final int FIRST_CAPACITY = 1000;
    private static final int FIRST_FLOW = 100;
    private static final int SETTLEMENT_STEP = 8;
    private static final int WHOLE = 1000;
    private static final int NO_THRESHOLD = 0;
    private static final int[] POWERS_OF_TEN = {1, 10, 100, 1000};

    private final int margin;
    private final int hold;
    private final Account[] accounts = new Account[MAX_ACCOUNTS];
    private final RouteTable routes = new RouteTable();
    private final Transfer[] transfers = new Transfer[MAX_TRANSFERS];
    private final long[] settlements = new long[MAX_TRANSFERS];
    private int accountCount = 0;
    private int transferCount = 0;
    private int settlementCount = 0;
    private int spread = 0;
    private long now = 0;

    public ValueConnector(int margin, int hold) {
        this.margin = isWithin(margin, 1, 1000) ? margin : 10;
        this.hold = isWithin(hold, 1, 100000) ? hold : 1000;
    }

    public int account(int minimum, int limit, int worth) {
        if (accountCount >= MAX_ACCOUNTS || !isWithin(minimum, -MAX_AMOUNT, 0)
                || !isWithin(limit, 1, MAX_AMOUNT) || !isWithin(worth, 1, MAX_WORTH)) {
            return NONE;
        }
        int number = accountCount;
        accounts[number] = new Account(number, minimum, limit, worth);
        accountCount++;
        return number;
    }

    public boolean worth(int a, int w) {
        Account account = accountNumbered(a);
        if (account == null || !isWithin(w, 1, MAX_WORTH)) {
            return false;
        }
        account.worth = w;
        return true;
    }

    public boolean spread(int s) {
        if (!isWithin(s, 0, WHOLE - 1)) {
            return false;
        }
        spread = s;
        return true;
    }

    public boolean policy(int a, int threshold, int target, int digits) {
        Account account = accountNumbered(a);
        if (account == null || !isWithin(threshold, 1, MAX_AMOUNT)
                || !isWithin(target, account.minimum, threshold - 1)
                || !isWithin(digits, 0, POWERS_OF_TEN.length - 1)) {
            return false;
        }
        account.threshold = threshold;
        account.target = target;
        account.unit = POWERS_OF_TEN[digits];
        return true;
    }

    public boolean bucket(int a, int capacity, int flow) {
        Account account = accountNumbered(a);
        if (account == null || !isWithin(capacity, 1, 1000) || !isWithin(flow, 0, 1000)) {
            return false;
        }
        account.bucket.renew(capacity, flow);
        return true;
    }

    public boolean learn(int a, long prefix, int hops) {
        if (accountNumbered(a) == null || letterCount(prefix) == NONE || !isWithin(hops, 1, 15)) {
            return false;
        }
        return routes.enter(a, prefix, hops);
    }

    public boolean forget(int a, long prefix) {
        return routes.strike(a, prefix);
    }

    public int way(long address) {
        return isAddress(address) ? routes.accountFor(address) : NONE;
    }

    public int prepare(int a, long address, int amount, int expiry, long condition) {
        Account payer = accountNumbered(a);
        if (payer == null) {
            return NO_ACCOUNT;
        }
        if (!isAddress(address) || amount < 0) {
            return MALFORMED;
        }
        if (transferCount >= MAX_TRANSFERS) {
            return FULL;
        }
        if (expiry <= now) {
            return EXPIRED;
        }
        if (amount > payer.limit) {
            return LARGE;
        }
        if (!payer.bucket.take(DROPS_PER_PREPARE)) {
            return PACED;
        }
        Account payee = accountNumbered(routes.accountFor(address));
        if (payee == null || payee == payer) {
            return UNREACHABLE;
        }
        long outgoingExpiry = Math.min((long) expiry - margin, now + hold);
        if (outgoingExpiry <= now) {
            return BRIEF;
        }
        if (payer.balance - amount < payer.minimum) {
            return POOR;
        }
        long outgoingAmount = converted(amount, payer.worth, payee.worth);
        if (outgoingAmount > payee.limit) {
            return GREAT;
        }
        payer.balance -= amount;
        return keep(new Transfer(payer, payee, amount, outgoingAmount, outgoingExpiry, condition));
    }

    public long lock(long key) {
        return lockOf(key);
    }

    public int fulfil(int n, long key) {
        Transfer transfer = transferNumbered(n);
        if (transfer == null) {
            return -1;
        }
        if (transfer.state != PENDING) {
            return -2;
        }
        if (lockOf(key) != transfer.condition) {
            return -3;
        }
        transfer.payOut(key);
        settle(transfer.payee);
        return 0;
    }

    public int reject(int n) {
        Transfer transfer = transferNumbered(n);
        if (transfer == null) {
            return -1;
        }
        if (transfer.state != PENDING) {
            return -2;
        }
        transfer.payBack(REJECTED);
        return 0;
    }

    public int advance(int n) {
        if (!isWithin(n, 0, MAX_TICKS)) {
            return NONE;
        }
        now += n;
        for (int a = 0; a < accountCount; a++) {
            accounts[a].bucket.refill(n);
        }
        return lapseDue();
    }

    public int credit(int a, int key, int units) {
        Account account = accountNumbered(a);
        if (account == null || !isWithin(units, 0, MAX_UNITS)) {
            return NONE;
        }
        if (account.creditKeys.holds(key)) {
            return 1;
        }
        account.creditKeys.remember(key);
        account.balance += (long) units * account.unit;
        return 0;
    }

    public long balance(int a) {
        Account account = accountNumbered(a);
        return account == null ? 0 : account.balance;
    }

    public long position() {
        long sum = 0;
        for (int a = 0; a < accountCount; a++) {
            sum += accounts[a].balance * accounts[a].worth;
        }
        return sum;
    }

    public int state(int n) {
        Transfer transfer = transferNumbered(n);
        return transfer == null ? NONE : transfer.state;
    }

    public long transfer(int n, int what) {
        Transfer transfer = transferNumbered(n);
        if (transfer == null) {
            return NONE;
        }
        switch (what) {
            case 0:
                return transfer.payee.number;
            case 1:
                return transfer.outgoingAmount;
            case 2:
                return transfer.outgoingExpiry;
            case 3:
                return transfer.key;
            default:
                return NONE;
        }
    }

    public long settlement(int n) {
        return n >= 0 && n < settlementCount ? settlements[n] : NONE;
    }

    public int drops(int a) {
        Account account = accountNumbered(a);
        return account == null ? NONE : account.bucket.drops;
    }

    private Account accountNumbered(int a) {
        return a >= 0 && a < accountCount ? accounts[a] : null;
    }

    private Transfer transferNumbered(int n) {
        return n >= 0 && n < transferCount ? transfers[n] : null;
    }

    private int keep(Transfer transfer) {
        int number = transferCount;
        transfers[number] = transfer;
        transferCount++;
        return number;
    }

    /** The factors stay below 10^9 * 10^4 * 10^3, so a long holds their product. */
    private long converted(int amount, int worthFrom, int worthTo) {
        return (long) amount * worthFrom * (WHOLE - spread) / ((long) WHOLE * worthTo);
    }

    private int lapseDue() {
        int lapsed = 0;
        for (int n = 0; n < transferCount; n++) {
            Transfer transfer = transfers[n];
            if (transfer.state == PENDING && transfer.outgoingExpiry <= now) {
                transfer.payBack(LAPSED);
                lapsed++;
            }
        }
        return lapsed;
    }

    /** A transfer is fulfilled once and settles at most once, so the row has room for every settlement. */
    private void settle(Account account) {
        long settled = account.takeSettled();
        if (settled > 0 && settlementCount < settlements.length) {
            settlements[settlementCount] = settled * SETTLEMENT_STEP + account.number;
            settlementCount++;
        }
    }

    private static long lockOf(long key) {
        long x = key * key + 41;
        return x ^ (x >>> 7);
    }

    private static boolean isWithin(int value, int least, int most) {
        return value >= least && value <= most;
    }

    private static boolean isAddress(long text) {
        return letterCount(text) >= 1;
    }

    /** The number of letters of a prefix; NONE when the text is no prefix. */
    private static int letterCount(long text) {
        int count = 0;
        long left = text;
        while (count < MAX_LETTERS && isLetter(left & 255)) {
            left >>>= 8;
            count++;
        }
        return left == 0 ? count : NONE;
    }

    private static boolean isLetter(long code) {
        return code >= 'a' && code <= 'z';
    }

    private static final class Account {
        final int number;
        final int minimum;
        final int limit;
        final Bucket bucket = new Bucket();
        final RecentKeys creditKeys = new RecentKeys();
        int worth;
        long balance = 0;
        int threshold = NO_THRESHOLD;
        int target = 0;
        int unit = 1;
        long rest = 0;

        Account(int number, int minimum, int limit, int worth) {
            this.number = number;
            this.minimum = minimum;
            this.limit = limit;
            this.worth = worth;
        }

        /** Brings a balance that has reached the threshold down to the target; how many whole units are settled. */
        long takeSettled() {
            if (threshold == NO_THRESHOLD || balance < threshold) {
                return 0;
            }
            rest += balance - target;
            balance = target;
            long settled = rest / unit;
            rest = rest % unit;
            return settled;
        }
    }

    private static final class Bucket {
        int most;
        int flow;
        int drops;

        Bucket() {
            renew(FIRST_CAPACITY, FIRST_FLOW);
        }

        void renew(int newCapacity, int newFlow) {
            most = newCapacity * DROPS_PER_PREPARE;
            flow = newFlow;
            drops = most;
        }

        boolean take(int wanted) {
            if (drops < wanted) {
                return false;
            }
            drops -= wanted;
            return true;
        }

        void refill(int ticks) {
            drops = Math.min(most, drops + flow * ticks);
        }
    }

    /** Only keys that are not in it are remembered, so those it holds are always different ones. */
    private static final class RecentKeys {
        private final int[] keys = new int[REMEMBERED_KEYS];
        private int count = 0;
        private int oldest = 0;

        boolean holds(int key) {
            for (int i = 0; i < count; i++) {
                if (keys[i] == key) {
                    return true;
                }
            }
            return false;
        }

        void remember(int key) {
            if (count < keys.length) {
                keys[count] = key;
                count++;
                return;
            }
            keys[oldest] = key;
            oldest = oldest + 1 < keys.length ? oldest + 1 : 0;
        }
    }

    private static final class RouteTable {
        private final int[] owners = new int[MAX_ROUTES];
        private final long[] prefixes = new long[MAX_ROUTES];
        private final int[] distances = new int[MAX_ROUTES];
        private int count = 0;

        boolean enter(int owner, long prefix, int hops) {
            int place = placeOf(owner, prefix);
            if (place != NONE) {
                distances[place] = hops;
                return true;
            }
            if (count >= MAX_ROUTES) {
                return false;
            }
            owners[count] = owner;
            prefixes[count] = prefix;
            distances[count] = hops;
            count++;
            return true;
        }

        /** The last route moves into the gap: the order of the rows bears on no answer. */
        boolean strike(int owner, long prefix) {
            int place = placeOf(owner, prefix);
            if (place == NONE) {
                return false;
            }
            count--;
            owners[place] = owners[count];
            prefixes[place] = prefixes[count];
            distances[place] = distances[count];
            return true;
        }

        int accountFor(long address) {
            for (int letters = letterCount(address); letters >= 0; letters--) {
                int place = nearest(firstLetters(address, letters));
                if (place != NONE) {
                    return owners[place];
                }
            }
            return NONE;
        }

        private int placeOf(int owner, long prefix) {
            for (int i = 0; i < count; i++) {
                if (owners[i] == owner && prefixes[i] == prefix) {
                    return i;
                }
            }
            return NONE;
        }

        private int nearest(long prefix) {
            int best = NONE;
            for (int i = 0; i < count; i++) {
                if (prefixes[i] == prefix && (best == NONE || isNearer(i, best))) {
                    best = i;
                }
            }
            return best;
        }

        private boolean isNearer(int i, int other) {
            if (distances[i] != distances[other]) {
                return distances[i] < distances[other];
            }
            return owners[i] < owners[other];
        }

        private static long firstLetters(long address, int letters) {
            return address & ((1L << (8 * letters)) - 1);
        }
    }

    private static final class Transfer {
        final Account payer;
        final Account payee;
        final int amount;
        final long outgoingAmount;
        final long outgoingExpiry;
        final long condition;
        int state = PENDING;
        long key = 0;

        Transfer(Account payer, Account payee, int amount, long outgoingAmount, long outgoingExpiry,
                long condition) {
            this.payer = payer;
            this.payee = payee;
            this.amount = amount;
            this.outgoingAmount = outgoingAmount;
            this.outgoingExpiry = outgoingExpiry;
            this.condition = condition;
        }

        void payOut(long openingKey) {
            state = FULFILLED;
            key = openingKey;
            payee.balance += outgoingAmount;
        }

        void payBack(int endState) {
            state = endState;
            payer.balance += amount;
        }
    }
}

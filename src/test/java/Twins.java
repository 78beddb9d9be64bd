import java.util.function.ToLongFunction;

/**
 * Two objects, of which one has had a call more: what that call has changed shows in a question that they answer
 * otherwise. The questions reach into every corner that Past has filled, the hidden ones too (the clock, hops,
 * worths, spread, policies, rests, known keys), and with the longest past they stay within 512 calls.
 */
final class Twins {
    private static final long[] PREFIXES = {Past.OWN, Check.text("b"), 0, Past.C, Check.text("bc")};
    private static final long[] ADDRESSES = {Past.OWN, Past.B, Past.Q, Past.C, Check.text("bc")};
    private static final int[] HOPS = {4, 3, 9, 2, 5};
    private static final int[] LIMITS = {600, 900, 10, 400, 104, 105, 106, 107};
    private static final int[] MINIMA = {-700, -500, 0, -300, 0, 0, 0, 0};

    private final String call;
    private final ValueConnector one;
    private final ValueConnector other;

    Twins(String call, ValueConnector one, ValueConnector other) {
        this.call = call;
        this.one = one;
        this.other = other;
    }

    void answerAlike() {
        open();
        clock();
        knownKeys();
        hops();
        payments();
        ends();
        limitsAndDigits();
        buckets();
        policies();
        rooms();
    }

    private void ask(String question, ToLongFunction<ValueConnector> asked) {
        Check.due(call + ", then " + question, asked.applyAsLong(one), asked.applyAsLong(other));
    }

    private void open() {
        for (int i = -1; i <= 8; i++) {
            int a = i;
            ask("balance(" + a + ")", x -> x.balance(a));
            ask("drops(" + a + ")", x -> x.drops(a));
        }
        ask("position()", ValueConnector::position);
        for (int i = 0; i <= Past.TRANSFERS; i++) {
            int n = i;
            ask("state(" + n + ")", x -> x.state(n));
            ask("transfer(" + n + ", 0)", x -> x.transfer(n, 0));
            ask("transfer(" + n + ", 1)", x -> x.transfer(n, 1));
            ask("transfer(" + n + ", 2)", x -> x.transfer(n, 2));
            ask("transfer(" + n + ", 3)", x -> x.transfer(n, 3));
        }
        ask("settlement(0)", x -> x.settlement(0));
        ask("settlement(1)", x -> x.settlement(1));
        for (long address : ADDRESSES) {
            ask("way(" + address + ")", x -> x.way(address));
        }
    }

    private void clock() {
        for (int i = -1; i <= 1; i++) {
            int expiry = Past.NOW + i;
            ask("prepare until " + expiry, x -> x.prepare(0, Past.B, 0, expiry, 0));
        }
    }

    /** From the newest key down: one that is not known pushes the oldest out, and would hide what it was. */
    private void knownKeys() {
        for (int i = 0; i < 40; i++) {
            int a = i % 4;
            int key = 9 - i / 4;
            ask("credit(" + a + ", " + key + ", 0)", x -> x.credit(a, key, 0));
        }
        for (int i = 9; i > 1; i--) {
            int key = i;
            ask("credit(1, " + key + ", 0) behind two new keys", x -> x.credit(1, key, 0));
        }
    }

    private void hops() {
        for (int i = 0; i < HOPS.length; i++) {
            long prefix = PREFIXES[i];
            long address = ADDRESSES[i];
            int equal = HOPS[i];
            ask("learn(3, " + prefix + ", as many)", x -> x.learn(3, prefix, equal) ? 1 : 0);
            ask("way(" + address + ")", x -> x.way(address));
            ask("learn(3, " + prefix + ", one less)", x -> x.learn(3, prefix, equal - 1) ? 1 : 0);
            ask("way(" + address + ")", x -> x.way(address));
            ask("forget(3, " + prefix + ")", x -> x.forget(3, prefix) ? 1 : 0);
        }
    }

    /** One by one over the threshold of account 1, and then far over it. */
    private void payments() {
        for (int i = Past.TRANSFERS; i < Past.TRANSFERS + 8; i++) {
            int n = i;
            int amount = i < Past.TRANSFERS + 6 ? 1 : 70;
            ask("a payment of " + amount, x -> x.prepare(0, Past.B, amount, 1000, Past.CONDITION));
            ask("what goes out", x -> x.transfer(n, 1));
            ask("its key", x -> x.fulfil(n, Past.KEY));
            ask("balance(1)", x -> x.balance(1));
        }
        ask("settlement(1)", x -> x.settlement(1));
        ask("settlement(2)", x -> x.settlement(2));
    }

    private void ends() {
        ask("a wrong key", x -> x.fulfil(3, 8));
        ask("the key of 3", x -> x.fulfil(3, Past.KEY));
        ask("the key of 4", x -> x.fulfil(4, 0));
        ask("reject(5)", x -> x.reject(5));
        for (int i = 0; i < 4; i++) {
            int a = i;
            ask("balance(" + a + ") at the end", x -> x.balance(a));
        }
        ask("settlement(3)", x -> x.settlement(3));
    }

    private void limitsAndDigits() {
        for (int i = 0; i < 8; i++) {
            int a = i;
            ask("prepare at the limit of " + a, x -> x.prepare(a, Past.Q, LIMITS[a], 1000, 0));
            ask("prepare over the limit of " + a, x -> x.prepare(a, Past.Q, LIMITS[a] + 1, 1000, 0));
            ask("credit(" + a + ", 50, 1)", x -> x.credit(a, 50, 1));
            ask("balance(" + a + ") with its digits", x -> x.balance(a));
            ask("position() with its worth", ValueConnector::position);
        }
    }

    private void buckets() {
        for (int ticks : new int[] {1, 30, 100000}) {
            ask("advance(" + ticks + ")", x -> x.advance(ticks));
            for (int i = 0; i < 4; i++) {
                int a = i;
                ask("drops(" + a + ") after " + ticks, x -> x.drops(a));
            }
        }
    }

    private void policies() {
        for (int i = 0; i < 8; i++) {
            int a = i;
            ask("policy below the minimum", x -> x.policy(a, 1, MINIMA[a] - 1, 0) ? 1 : 0);
            ask("policy down to the minimum", x -> x.policy(a, 1, MINIMA[a], 0) ? 1 : 0);
        }
    }

    private void rooms() {
        for (int i = 50; i < 85; i++) {
            int number = i;
            ask("learn of a new route", x -> x.learn(0, Past.routeNumbered(number), 1) ? 1 : 0);
        }
        for (int i = 0; i < 5; i++) {
            ask("a new account", x -> x.account(0, 1, 1));
        }
    }
}

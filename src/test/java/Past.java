/** Objects with a past that has left something in every corner, so that a change of any of it can be seen. */
final class Past {
    static final int NOW = 20;
    static final int ACCOUNTS = 4;
    static final int[] NO_ACCOUNTS = {-1, ACCOUNTS, 7, 8, Integer.MIN_VALUE, Integer.MAX_VALUE};
    static final int TRANSFERS = 6;
    static final int FULFILLED = 0;
    static final int REJECTED = 1;
    static final int LAPSED = 2;
    static final int PENDING = 3;
    /** The key of the pending transfer, and its lock. */
    static final long KEY = 7;
    static final long CONDITION = 90;
    static final long OWN = Check.text("own");
    static final long B = Check.text("bob");
    static final long C = Check.text("c");
    static final long D = Check.text("d");
    /** Goes to account 1 by the prefix of no letters. */
    static final long Q = Check.text("q");
    /** The margin, and the first expiry that leaves a tick beyond it. */
    static final int MARGIN = 5;
    static final int SOON = NOW + MARGIN + 1;

    private Past() {
    }

    static ValueConnector busy() {
        ValueConnector x = new ValueConnector(MARGIN, 100);
        x.account(-700, 600, 3);
        x.account(-500, 900, 2);
        x.account(0, 10, 1);
        x.account(-300, 400, 4);
        x.spread(100);
        x.bucket(0, 200, 7);
        x.bucket(1, 10, 3);
        x.bucket(2, 5, 0);
        routes(x);
        credits(x);
        transfers(x);
        return x;
    }

    private static void routes(ValueConnector x) {
        x.learn(0, OWN, 4);
        x.learn(1, Check.text("b"), 3);
        x.learn(1, 0, 9);
        x.learn(2, C, 2);
        x.learn(2, Check.text("bc"), 5);
        x.learn(3, D, 7);
    }

    private static void credits(ValueConnector x) {
        for (int key = 1; key <= 9; key++) {
            x.credit(1, key, 1);
        }
        x.credit(0, 3, 40);
        x.credit(2, 4, 6);
        x.policy(1, 200, 90, 2);
        x.policy(3, 11, 4, 1);
    }

    /** Settlement 0 leaves account 1 a rest of 21; in the end it has 65, its threshold, but was not looked at since. */
    private static void transfers(ValueConnector x) {
        x.prepare(0, B, 150, 90, CONDITION);
        x.prepare(0, B, 20, 90, CONDITION);
        x.prepare(0, B, 30, 8, CONDITION);
        x.fulfil(FULFILLED, KEY);
        x.reject(REJECTED);
        x.advance(NOW);
        x.prepare(0, B, 40, 110, CONDITION);
        x.prepare(1, D, 25, 200, 41);
        x.prepare(0, C, 2, 60, 42);
        x.policy(1, 65, 60, 2);
    }

    static ValueConnector eightAccounts() {
        ValueConnector x = busy();
        for (int a = ACCOUNTS; a < 8; a++) {
            x.account(0, 100 + a, a);
        }
        return x;
    }

    static ValueConnector fortyRoutes() {
        ValueConnector x = busy();
        for (int i = 6; i < 40; i++) {
            x.learn(i % ACCOUNTS, routeNumbered(i), 6);
        }
        return x;
    }

    /** A prefix of its own for each number from 0 to 99. */
    static long routeNumbered(int i) {
        return Check.text("r" + (char) ('a' + i / 10) + (char) ('a' + i % 10));
    }

    static ValueConnector allTransfers() {
        ValueConnector x = busy();
        for (int n = TRANSFERS; n < 120; n++) {
            x.prepare(0, B, 0, 90, CONDITION);
        }
        return x;
    }
}

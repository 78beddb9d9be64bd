/** Promise 10: prepare, its tests and their order. */
public final class PreparesTest {
    private static final int LEAST = Integer.MIN_VALUE;
    private static final int MOST = Integer.MAX_VALUE;
    private static final int BILLION = 1000000000;
    private static final int NOW = Past.NOW;
    private static final int SOON = Past.SOON;
    private static final long OWN = Past.OWN;
    private static final long B = Past.B;
    private static final long C = Past.C;

    public static void main(String[] args) {
        numbers();
        takenFromBalance();
        noAccount();
        noAddress();
        amountBelowZero();
        full();
        endedOnesCount();
        expired();
        large();
        noWay();
        ownWay();
        brief();
        outgoingExpiry();
        poor();
        great();
        outgoingAmount();
        roundedDown();
        greatNumbers();
        order();
        malformedInOrder();
        Check.finish();
    }

    /** Account 0 pays, 1 has room, 2 takes at most 10, and the route of 0 leads back to itself. */
    private static ValueConnector make() {
        ValueConnector x = new ValueConnector(5, 100);
        x.account(-1000, 600, 1);
        x.account(-1000, 1000, 1);
        x.account(0, 10, 1);
        x.learn(0, OWN, 1);
        x.learn(1, Check.text("b"), 1);
        x.learn(2, C, 1);
        return x;
    }

    private static void numbers() {
        Check.sentence("it becomes a TRANSFER, PENDING, with the next number from 0 on");
        ValueConnector x = make();
        Check.due("the first", x.prepare(0, B, 1, 50, 0), 0);
        Check.due("it is pending", x.state(0), ValueConnector.PENDING);
        Check.due("a refused one", x.prepare(0, B, 601, 50, 0), ValueConnector.LARGE);
        Check.due("the second is not there yet", x.state(1), -1);
        Check.due("the second", x.prepare(0, C, 1, 50, 0), 1);
        Check.due("from another", x.prepare(1, OWN, 1, 50, 0), 2);
        Check.due("of nothing", x.prepare(0, B, 0, 50, 0), 3);
    }

    private static void takenFromBalance() {
        Check.sentence("the amount is taken from a's balance");
        ValueConnector x = make();
        x.prepare(0, B, 0, 50, 0);
        Check.due("nothing", x.balance(0), 0);
        x.prepare(0, B, 7, 50, 0);
        Check.due("7", x.balance(0), -7);
        x.worth(0, 3);
        x.spread(500);
        x.prepare(0, B, 600, 50, 0);
        Check.due("600 more, whatever goes out", x.balance(0), -607);
        Check.due("the way has nothing yet", x.balance(1), 0);
    }

    private static void noAccount() {
        Check.sentence("NO_ACCOUNT when there is no account a");
        for (int a : Past.NO_ACCOUNTS) {
            Refusal.is(ValueConnector.NO_ACCOUNT, "from " + a, x -> x.prepare(a, B, 1, SOON, 0));
        }
        Check.due("from the first", Past.busy().prepare(0, B, 1, SOON, 0), Past.TRANSFERS);
        Check.due("from the last", Past.busy().prepare(Past.ACCOUNTS - 1, B, 1, SOON, 0), Past.TRANSFERS);
    }

    private static void dueMalformed(long address, int amount) {
        Refusal.is(ValueConnector.MALFORMED, "prepare(0, " + address + ", " + amount + ", ..)",
                x -> x.prepare(0, address, amount, SOON, 0));
    }

    private static void noAddress() {
        Check.sentence("MALFORMED when it is no address");
        dueMalformed(0, 1);
        dueMalformed(Check.text("bbbbbbb"), 1);
        dueMalformed(Check.text("bB"), 1);
        dueMalformed(96, 1);
        dueMalformed(123, 1);
        dueMalformed(B | 1L << 63, 1);
        dueMalformed(-1, 1);
        Check.due("one letter", Past.busy().prepare(0, Check.text("b"), 1, SOON, 0), Past.TRANSFERS);
        Check.due("six letters", Past.busy().prepare(0, Check.text("bbbbbb"), 1, SOON, 0), Past.TRANSFERS);
    }

    private static void amountBelowZero() {
        Check.sentence("or the amount is less than 0");
        dueMalformed(B, -1);
        dueMalformed(B, LEAST);
        Check.due("an amount of 0", Past.busy().prepare(0, B, 0, SOON, 0), Past.TRANSFERS);
    }

    private static void full() {
        Check.sentence("FULL when 120 transfers were made");
        ValueConnector x = make();
        for (int i = 0; i < 120; i++) {
            Check.due("transfer " + i, x.prepare(0, B, 1, 50, 90), i);
        }
        Check.due("the 121st", x.prepare(0, B, 1, 50, 90), ValueConnector.FULL);
        Check.due("it is not there", x.state(120), -1);
        Check.due("the last one is", x.state(119), ValueConnector.PENDING);
        Refusal.is(ValueConnector.FULL, "the 121st", Past::allTransfers, y -> y.prepare(0, B, 1, SOON, 0));
        Refusal.is(ValueConnector.FULL, "from another", Past::allTransfers, y -> y.prepare(3, C, 0, SOON, 0));
    }

    private static void endedOnesCount() {
        Check.sentence("At most 120 transfers are made");
        ValueConnector x = make();
        for (int i = 0; i < 120; i++) {
            x.prepare(0, B, 1, 50, 90);
            if (i % 3 == 0) {
                x.fulfil(i, 7);
            } else if (i % 3 == 1) {
                x.reject(i);
            }
        }
        Check.due("fulfilled and rejected ones", x.prepare(0, B, 1, 50, 90), ValueConnector.FULL);
        Check.due("the others lapse", x.advance(100), 40);
        Check.due("lapsed ones", x.prepare(0, B, 1, 500, 90), ValueConnector.FULL);
    }

    private static void expired() {
        Check.sentence("EXPIRED: the expiry is not later than now");
        ValueConnector x = make();
        Check.due("now is 0 at first", x.prepare(0, B, 1, 0, 0), ValueConnector.EXPIRED);
        Check.due("before", x.prepare(0, B, 1, -1, 0), ValueConnector.EXPIRED);
        Check.due("one later", x.prepare(0, B, 1, 1, 0), ValueConnector.BRIEF);
        for (int expiry : new int[] {NOW, NOW - 1, 0, -1, LEAST}) {
            Refusal.is(ValueConnector.EXPIRED, "until " + expiry, y -> y.prepare(0, B, 1, expiry, 0));
        }
        Check.due("one later than 20", Past.busy().prepare(0, B, 1, NOW + 1, 0), ValueConnector.BRIEF);
    }

    private static void large() {
        Check.sentence("LARGE: the amount is more than a's limit");
        ValueConnector x = make();
        Check.due("the limit", x.prepare(0, B, 600, 50, 0), 0);
        Check.due("one more", x.prepare(0, B, 601, 50, 0), ValueConnector.LARGE);
        Check.due("another's limit", x.prepare(1, OWN, 601, 50, 0), ValueConnector.GREAT);
        for (int amount : new int[] {601, BILLION, MOST}) {
            Refusal.is(ValueConnector.LARGE, "of " + amount, y -> y.prepare(0, B, amount, SOON, 0));
        }
    }

    private static void noWay() {
        Check.sentence("UNREACHABLE: the address has no way");
        ValueConnector x = make();
        Check.due("no route", x.prepare(0, Check.text("q"), 1, 50, 0), ValueConnector.UNREACHABLE);
        Check.due("a longer prefix", x.prepare(1, Check.text("ow"), 1, 50, 0), ValueConnector.UNREACHABLE);
        Check.due("all its letters", x.prepare(1, OWN, 1, 50, 0), 0);
        Refusal.takesDrops(ValueConnector.UNREACHABLE, "no route", PreparesTest::withoutWays,
                y -> y.prepare(0, C, 1, SOON, 0));
    }

    private static ValueConnector withoutWays() {
        ValueConnector x = Past.busy();
        x.forget(2, C);
        x.forget(1, 0);
        return x;
    }

    private static void ownWay() {
        Check.sentence("or the way is a itself");
        Refusal.takesDrops(ValueConnector.UNREACHABLE, "to itself", y -> y.prepare(0, OWN, 1, SOON, 0));
        ValueConnector x = make();
        Check.due("for another", x.prepare(1, OWN, 1, 50, 0), 0);
        x.learn(1, Check.text("ow"), 1);
        Check.due("though another has a shorter one", x.prepare(0, OWN, 1, 50, 0), ValueConnector.UNREACHABLE);
        x.learn(1, OWN, 2);
        Check.due("though another is further", x.prepare(0, OWN, 1, 50, 0), ValueConnector.UNREACHABLE);
        x.learn(1, OWN, 1);
        Check.due("though another is as near", x.prepare(0, OWN, 1, 50, 0), ValueConnector.UNREACHABLE);
        x.learn(0, OWN, 2);
        Check.due("another is nearer", x.prepare(0, OWN, 1, 50, 0), 1);
    }

    private static void brief() {
        Check.sentence("BRIEF: the OUTGOING EXPIRY, .. is not later than now");
        ValueConnector x = make();
        Check.due("the margin", x.prepare(0, B, 1, 5, 0), ValueConnector.BRIEF);
        Check.due("one more", x.prepare(0, B, 1, 6, 0), 0);
        x.advance(1000);
        Check.due("the margin later", x.prepare(0, B, 1, 1005, 0), ValueConnector.BRIEF);
        Check.due("one more later", x.prepare(0, B, 1, 1006, 0), 1);
        for (int expiry : new int[] {SOON - 1, SOON - 2, NOW + 1}) {
            Refusal.takesDrops(ValueConnector.BRIEF, "until " + expiry, y -> y.prepare(0, B, 1, expiry, 0));
        }
    }

    private static void dueExpiry(ValueConnector x, int expiry, long outgoing) {
        int n = x.prepare(0, B, 0, expiry, 0);
        Check.due("the outgoing expiry of " + expiry, x.transfer(n, 2), outgoing);
    }

    private static void outgoingExpiry() {
        Check.sentence("the lesser of the expiry less MARGIN and now plus HOLD");
        ValueConnector x = make();
        dueExpiry(x, 6, 1);
        dueExpiry(x, 104, 99);
        dueExpiry(x, 105, 100);
        dueExpiry(x, 106, 100);
        dueExpiry(x, MOST, 100);
        x.advance(1000);
        dueExpiry(x, 1006, 1001);
        dueExpiry(x, 1104, 1099);
        dueExpiry(x, 1105, 1100);
        dueExpiry(x, 1106, 1100);
        dueExpiry(x, MOST, 1100);
    }

    private static void poor() {
        Check.sentence("POOR: a's balance less the amount is less than a's minimum");
        ValueConnector x = make();
        x.prepare(0, B, 600, 50, 90);
        Check.due("one below the minimum", x.prepare(0, B, 401, 50, 0), ValueConnector.POOR);
        Check.due("down to the minimum", x.prepare(0, B, 400, 50, 0), 1);
        Check.due("one below", x.prepare(0, B, 1, 50, 0), ValueConnector.POOR);
        Check.due("of nothing", x.prepare(0, B, 0, 50, 0), 2);
        x.fulfil(0, 7);
        Check.due("paid out is not back", x.prepare(0, B, 1, 50, 0), ValueConnector.POOR);
        x.reject(1);
        Check.due("paid back is", x.prepare(0, B, 400, 50, 0), 3);
        Check.due("a minimum of 0", x.prepare(2, B, 1, 50, 0), ValueConnector.POOR);
        x.credit(2, 1, 1);
        Check.due("all of a balance", x.prepare(2, B, 1, 50, 0), 4);
        x.policy(2, 1, 0, 3);
        for (int key = 10; key < 13; key++) {
            x.credit(2, key, 1000000);
        }
        Check.due("of a balance beyond an int", x.prepare(2, B, 10, 50, 0), 5);
        Refusal.takesDrops(ValueConnector.POOR, "one below", y -> y.prepare(0, B, 549, SOON, 0));
        Refusal.takesDrops(ValueConnector.POOR, "far below", y -> y.prepare(0, B, 600, SOON, 0));
        Check.due("down to it", Past.busy().prepare(0, B, 548, SOON, 0), Past.TRANSFERS);
    }

    private static void great() {
        Check.sentence("GREAT: the OUTGOING AMOUNT is more than the limit of the way, account b");
        ValueConnector x = make();
        Check.due("one more", x.prepare(0, C, 11, 50, 0), ValueConnector.GREAT);
        Check.due("the limit", x.prepare(0, C, 10, 50, 0), 0);
        x.worth(2, 2);
        Check.due("22 halves", x.prepare(0, C, 22, 50, 0), ValueConnector.GREAT);
        Check.due("21 halves, rounded down", x.prepare(0, C, 21, 50, 0), 1);
        Check.due("what goes out", x.transfer(1, 1), 10);
        x.worth(0, 2);
        x.spread(100);
        Check.due("12 less a tenth", x.prepare(0, C, 12, 50, 0), 2);
        Check.due("13 less a tenth", x.prepare(0, C, 13, 50, 0), ValueConnector.GREAT);
        Refusal.takesDrops(ValueConnector.GREAT, "13 to 10", y -> y.prepare(0, C, 5, SOON, 0));
        Check.due("10 to 10", Past.busy().prepare(0, C, 4, SOON, 0), Past.TRANSFERS);
    }

    private static void dueOutgoing(int amount, int worthFrom, int worthTo, int spread, long outgoing) {
        ValueConnector x = new ValueConnector(5, 100);
        x.account(-BILLION, BILLION, worthFrom);
        x.account(-BILLION, BILLION, worthTo);
        x.learn(1, 0, 1);
        x.spread(spread);
        String name = amount + " from " + worthFrom + " to " + worthTo + " with spread " + spread;
        if (outgoing > BILLION) {
            Check.due(name, x.prepare(0, B, amount, 50, 0), ValueConnector.GREAT);
        } else {
            Check.due(name, x.prepare(0, B, amount, 50, 0), 0);
            Check.due(name + " goes out as", x.transfer(0, 1), outgoing);
        }
    }

    private static void outgoingAmount() {
        Check.sentence("It is amount * (a's worth) * (1000 - SPREAD) / (1000 * (b's worth))");
        dueOutgoing(0, 1, 1, 0, 0);
        dueOutgoing(0, 10000, 1, 999, 0);
        dueOutgoing(1000, 1, 1, 0, 1000);
        dueOutgoing(1000, 3, 1, 0, 3000);
        dueOutgoing(1000, 1, 4, 0, 250);
        dueOutgoing(1000, 1, 1, 1, 999);
        dueOutgoing(1000, 1, 1, 999, 1);
        dueOutgoing(1000, 3, 2, 500, 750);
    }

    private static void roundedDown() {
        Check.sentence("rounded down");
        dueOutgoing(1, 1, 2, 0, 0);
        dueOutgoing(1, 9999, 10000, 0, 0);
        dueOutgoing(3, 1, 2, 0, 1);
        dueOutgoing(1, 1, 1, 1, 0);
        dueOutgoing(1001, 1, 1, 1, 999);
        dueOutgoing(1002, 1, 1, 1, 1000);
        dueOutgoing(999, 1, 1, 999, 0);
        dueOutgoing(1000, 1, 1, 999, 1);
        dueOutgoing(1999, 1, 1, 999, 1);
        // 500 * 7 * 667 / 3000 is 778.1..; rounding in between would give 777
        dueOutgoing(500, 7, 3, 333, 778);
        // 99 * 10 * 990 / 10000 is 98.01: one that divides before it multiplies loses it
        dueOutgoing(99, 10, 10, 10, 98);
    }

    private static void greatNumbers() {
        Check.sentence("It is amount * (a's worth) * (1000 - SPREAD) / (1000 * (b's worth)), rounded down");
        dueOutgoing(BILLION, 10000, 10000, 0, BILLION);
        dueOutgoing(BILLION, 10000, 9999, 0, 1000100010);
        dueOutgoing(BILLION, 9999, 10000, 0, 999900000);
        dueOutgoing(BILLION, 10000, 1, 0, 10000L * BILLION);
        dueOutgoing(100000, 10000, 1, 0, BILLION);
        dueOutgoing(100001, 10000, 1, 0, BILLION + 10000);
        dueOutgoing(429497, 10000, 1, 0, 4294970000L);
        dueOutgoing(BILLION, 1, 10000, 999, 100);
        dueOutgoing(BILLION, 1, 1, 999, 1000000);
        dueOutgoing(999999999, 10000, 9999, 1, 999099908);
    }

    /** For every set of tests that fail at once: the first of them gives the answer, -1 for the first of ten. */
    private static void order() {
        Check.sentence("These TESTS are made in this order, the first one that fails gives the answer");
        for (int failing = 0; failing < 1 << 10; failing++) {
            int first = Integer.numberOfTrailingZeros(failing);
            String name = "the failing ones are " + Integer.toBinaryString(failing);
            Check.due(name, answerWhen(failing), failing == 0 ? 1 : -1 - first);
        }
    }

    private static boolean fails(int failing, int answer) {
        return (failing >> -1 - answer & 1) != 0;
    }

    private static int answerWhen(int failing) {
        ValueConnector x = beforeThePrepare(failing);
        int a = fails(failing, ValueConnector.NO_ACCOUNT) ? 3 : 0;
        long address = fails(failing, ValueConnector.GREAT) ? C : B;
        address = fails(failing, ValueConnector.UNREACHABLE) ? OWN : address;
        address = fails(failing, ValueConnector.MALFORMED) ? 0 : address;
        int amount = fails(failing, ValueConnector.LARGE) ? 601 : 600;
        int expiry = fails(failing, ValueConnector.BRIEF) ? 15 : 16;
        expiry = fails(failing, ValueConnector.EXPIRED) ? 10 : expiry;
        return x.prepare(a, address, amount, expiry, 0);
    }

    private static ValueConnector beforeThePrepare(int failing) {
        ValueConnector x = make();
        x.bucket(0, 1000, 0);
        if (fails(failing, ValueConnector.FULL)) {
            for (int i = 0; i < 119; i++) {
                x.prepare(0, B, 0, 50, 0);
            }
        }
        if (fails(failing, ValueConnector.PACED)) {
            x.bucket(0, 1, 0);
        }
        x.prepare(0, B, fails(failing, ValueConnector.POOR) ? 401 : 400, 50, 0);
        x.advance(10);
        return x;
    }

    private static void malformedInOrder() {
        Check.sentence("Else, in this order, NO_ACCOUNT when there is no account a, MALFORMED");
        ValueConnector x = Past.allTransfers();
        Check.due("no account, amount below 0", x.prepare(9, B, -1, SOON, 0), ValueConnector.NO_ACCOUNT);
        Check.due("no account, no address", x.prepare(9, 0, 1, SOON, 0), ValueConnector.NO_ACCOUNT);
        Check.due("amount below 0, full, expired", x.prepare(0, B, -1, NOW, 0), ValueConnector.MALFORMED);
        Check.due("no address, full, large", x.prepare(0, 0, 601, SOON, 0), ValueConnector.MALFORMED);
        Check.due("full, large", x.prepare(0, B, 601, SOON, 0), ValueConnector.FULL);
    }
}

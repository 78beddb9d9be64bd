/** Promises 11 to 14, 18 and 19: lock, fulfil, reject, advance, state, transfer. */
public final class TransfersTest {
    private static final int LEAST = Integer.MIN_VALUE;
    private static final int MOST = Integer.MAX_VALUE;

    public static void main(String[] args) {
        locks();
        fulfilling();
        fulfilRefusals();
        wrappingKeys();
        rejecting();
        endedStaysEnded();
        lapsing();
        lapsingInOneGo();
        advanceEdges();
        clockGoesFar();
        states();
        rowsOfTransfer();
        Check.finish();
    }

    private static ValueConnector make() {
        ValueConnector x = new ValueConnector(5, 100);
        x.account(-1000, 1000, 2);
        x.account(-1000, 1000, 1);
        x.account(-1000, 1000, 1);
        x.learn(1, Check.text("b"), 1);
        x.learn(2, Check.text("c"), 1);
        return x;
    }

    private static void locks() {
        ValueConnector x = new ValueConnector(1, 1);
        Check.due("lock(0)", x.lock(0), 41);
        Check.due("lock(1)", x.lock(1), 42);
        Check.due("lock(-1)", x.lock(-1), 42);
        Check.due("lock(7)", x.lock(7), 90);
        Check.due("lock(-7)", x.lock(-7), 90);
        Check.due("lock(10)", x.lock(10), 141 ^ 1);
        Check.due("lock(1000)", x.lock(1000), 1000041 ^ 7812);
        Check.due("lock(2^32)", x.lock(1L << 32), 41);
        // 3037000500^2 + 41 wraps below 0, and the shift brings zeros in
        Check.due("lock(3037000500)", x.lock(3037000500L), -9223372036709301575L ^ 72057594039064453L);
        Check.due("lock(least)", x.lock(Long.MIN_VALUE), 41);
        Check.due("lock(most)", x.lock(Long.MAX_VALUE), 42);
    }

    private static void fulfilling() {
        ValueConnector x = make();
        x.prepare(0, 98, 100, 50, x.lock(123456789012L));
        Check.due("fulfil", x.fulfil(0, 123456789012L), 0);
        Check.due("state", x.state(0), ValueConnector.FULFILLED);
        Check.due("the key", x.transfer(0, 3), 123456789012L);
        Check.due("the payer", x.balance(0), -100);
        Check.due("the payee", x.balance(1), 200);
        Check.due("the third", x.balance(2), 0);
    }

    private static void fulfilRefusals() {
        ValueConnector x = make();
        x.prepare(0, 98, 100, 50, 90);
        int[] none = {-1, 1, 119, 120, LEAST, MOST};
        for (int n : none) {
            Check.due("fulfil(" + n + ", 7)", x.fulfil(n, 7), -1);
            Check.due("fulfil(" + n + ", 8)", x.fulfil(n, 8), -1);
        }
        Check.due("a wrong key", x.fulfil(0, 8), -3);
        Check.due("the condition is no key", x.fulfil(0, 90), -3);
        Check.due("it is pending", x.state(0), ValueConnector.PENDING);
        Check.due("no key is kept", x.transfer(0, 3), 0);
        Check.due("nothing is paid", x.balance(1), 0);
        Check.due("the key", x.fulfil(0, 7), 0);
        Check.due("a wrong key after it", x.fulfil(0, 8), -2);
        Check.due("the other key after it", x.fulfil(0, -7), -2);
        Check.due("the first key stays", x.transfer(0, 3), 7);
        Check.due("paid once", x.balance(1), 200);
    }

    private static void wrappingKeys() {
        ValueConnector x = make();
        x.prepare(0, 98, 1, 50, 90);
        x.prepare(0, 98, 1, 50, 41);
        x.prepare(0, 98, 1, 50, 41);
        x.prepare(0, 98, 1, 50, 42);
        Check.due("a key below 0", x.fulfil(0, -7), 0);
        Check.due("it is kept as it came", x.transfer(0, 3), -7);
        Check.due("the key 0", x.fulfil(1, 0), 0);
        Check.due("is kept", x.transfer(1, 3), 0);
        Check.due("a key whose square wraps", x.fulfil(2, Long.MIN_VALUE), 0);
        Check.due("is kept too", x.transfer(2, 3), Long.MIN_VALUE);
        Check.due("the key -1", x.fulfil(3, -1), 0);
        Check.due("looks like NONE", x.transfer(3, 3), -1);
    }

    private static void rejecting() {
        ValueConnector x = make();
        x.prepare(0, 98, 100, 50, 90);
        x.prepare(0, 99, 30, 50, 90);
        int[] none = {-1, 2, 119, 120, LEAST, MOST};
        for (int n : none) {
            Check.due("reject(" + n + ")", x.reject(n), -1);
        }
        Check.due("reject(0)", x.reject(0), 0);
        Check.due("state", x.state(0), ValueConnector.REJECTED);
        Check.due("the other is pending", x.state(1), ValueConnector.PENDING);
        Check.due("paid back", x.balance(0), -30);
        Check.due("nothing paid out", x.balance(1), 0);
        Check.due("no key", x.transfer(0, 3), 0);
        Check.due("reject again", x.reject(0), -2);
        Check.due("paid back once", x.balance(0), -30);
        Check.due("not looked at for settlement", x.settlement(0), -1);
    }

    private static void endedStaysEnded() {
        ValueConnector x = make();
        for (int i = 0; i < 3; i++) {
            x.prepare(0, 98, 10, 50, 90);
        }
        x.fulfil(0, 7);
        x.reject(1);
        Check.due("one lapses", x.advance(45), 1);
        int[] ends = {ValueConnector.FULFILLED, ValueConnector.REJECTED, ValueConnector.LAPSED};
        for (int n = 0; n < 3; n++) {
            Check.due("fulfil " + n, x.fulfil(n, 7), -2);
            Check.due("fulfil with a wrong key " + n, x.fulfil(n, 8), -2);
            Check.due("reject " + n, x.reject(n), -2);
            Check.due("state " + n, x.state(n), ends[n]);
        }
        Check.due("none lapses again", x.advance(1000), 0);
        for (int n = 0; n < 3; n++) {
            Check.due("state later " + n, x.state(n), ends[n]);
        }
        Check.due("the payer", x.balance(0), -10);
        Check.due("the payee", x.balance(1), 20);
    }

    private static void lapsing() {
        ValueConnector x = make();
        x.prepare(0, 98, 10, 50, 90);
        x.prepare(0, 99, 20, 51, 90);
        x.prepare(1, 99, 40, 51, 90);
        Check.due("to 44", x.advance(44), 0);
        Check.due("pending at 44", x.state(0), ValueConnector.PENDING);
        Check.due("to 45", x.advance(1), 1);
        Check.due("lapsed at 45", x.state(0), ValueConnector.LAPSED);
        Check.due("pending at 45", x.state(1), ValueConnector.PENDING);
        Check.due("paid back", x.balance(0), -20);
        Check.due("no time", x.advance(0), 0);
        Check.due("in time at 45", x.fulfil(2, 7), 0);
        Check.due("to 46", x.advance(1), 1);
        Check.due("all is back", x.balance(0), 0);
        Check.due("but what was paid", x.balance(1), -40);
        Check.due("and came", x.balance(2), 40);
        Check.due("no key", x.transfer(0, 3), 0);
    }

    private static void lapsingInOneGo() {
        ValueConnector x = make();
        for (int i = 0; i < 120; i++) {
            x.prepare(0, 98, 1, 10 + i, 90);
        }
        Check.due("all are held", x.balance(0), -120);
        Check.due("three of them", x.advance(7), 3);
        Check.due("those are back", x.balance(0), -117);
        Check.due("the others", x.advance(100000), 117);
        Check.due("all are back", x.balance(0), 0);
    }

    private static void advanceEdges() {
        ValueConnector x = make();
        x.prepare(0, 98, 10, 6, 90);
        int[] refused = {-1, 100001, LEAST, MOST};
        for (int n : refused) {
            Check.due("advance(" + n + ")", x.advance(n), -1);
        }
        Check.due("the clock did not go", x.state(0), ValueConnector.PENDING);
        Check.due("nor back", x.prepare(0, 98, 10, 0, 90), ValueConnector.EXPIRED);
        Check.due("advance(0)", x.advance(0), 0);
        Check.due("advance(100000)", x.advance(100000), 1);
        Check.due("now is 100000", x.prepare(0, 98, 10, 100000, 90), ValueConnector.EXPIRED);
        Check.due("and not later", x.prepare(0, 98, 10, 100001, 90), ValueConnector.BRIEF);
    }

    private static void clockGoesFar() {
        ValueConnector x = make();
        for (int i = 0; i < 480; i++) {
            x.advance(100000);
        }
        Check.due("expired", x.prepare(0, 98, 10, 48000000, 90), ValueConnector.EXPIRED);
        Check.due("in time", x.prepare(0, 98, 10, MOST, 90), 0);
        Check.due("now and hold", x.transfer(0, 2), 48000100);
        Check.due("not yet", x.advance(99), 0);
        Check.due("then", x.advance(1), 1);
    }

    private static void states() {
        ValueConnector x = make();
        x.prepare(0, 98, 10, 50, 90);
        Check.due("state(0)", x.state(0), 0);
        int[] none = {-1, 1, 119, 120, LEAST, MOST};
        for (int n : none) {
            Check.due("state(" + n + ")", x.state(n), -1);
        }
    }

    private static void rowsOfTransfer() {
        ValueConnector x = make();
        x.prepare(0, 99, 10, 50, 90);
        x.prepare(2, 98, 30, 60, 90);
        Check.due("goes to", x.transfer(0, 0), 2);
        Check.due("amount", x.transfer(0, 1), 20);
        Check.due("expiry", x.transfer(0, 2), 45);
        Check.due("key", x.transfer(0, 3), 0);
        Check.due("the second goes to", x.transfer(1, 0), 1);
        Check.due("its amount", x.transfer(1, 1), 30);
        Check.due("its expiry", x.transfer(1, 2), 55);
        int[] wrongRows = {-1, 4, LEAST, MOST};
        for (int what : wrongRows) {
            Check.due("transfer(0, " + what + ")", x.transfer(0, what), -1);
        }
        int[] none = {-1, 2, 119, 120, LEAST, MOST};
        for (int n : none) {
            for (int what = 0; what < 4; what++) {
                Check.due("transfer(" + n + ", " + what + ")", x.transfer(n, what), -1);
            }
        }
        x.forget(2, 99);
        x.learn(1, 99, 1);
        x.worth(0, 9);
        x.advance(10);
        Check.due("still goes to", x.transfer(0, 0), 2);
        Check.due("still the amount", x.transfer(0, 1), 20);
        Check.due("still the expiry", x.transfer(0, 2), 45);
        x.fulfil(0, 7);
        Check.due("paid to", x.balance(2), 20 - 30);
        Check.due("rows stay when it ends", x.transfer(0, 0) + x.transfer(0, 1) + x.transfer(0, 2), 67);
    }
}

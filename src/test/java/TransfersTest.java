/** Promises 11 to 14, 18 and 19: lock, fulfil, reject, advance, state, transfer. */
public final class TransfersTest {
    private static final int LEAST = Integer.MIN_VALUE;
    private static final int MOST = Integer.MAX_VALUE;
    private static final int[] NO_TRANSFERS = {-1, Past.TRANSFERS, 119, 120, LEAST, MOST};
    private static final int[] ENDED = {Past.FULFILLED, Past.REJECTED, Past.LAPSED};

    public static void main(String[] args) {
        locks();
        wrappingLocks();
        fulfilling();
        everyKeyThatFits();
        fulfilOfNoTransfer();
        fulfilOfNotPending();
        fulfilByWrongKey();
        rejecting();
        rejectOfNoTransfer();
        rejectOfNotPending();
        endedStaysEnded();
        lapsing();
        inTime();
        howManyLapse();
        advanceEdges();
        clockGoesFar();
        states();
        statesOfNone();
        rowsOfTransfer();
        keyOfTransfer();
        transferOfNone();
        rowsThatAreNone();
        rowsStay();
        Check.finish();
    }

    private static ValueConnector make() {
        ValueConnector x = new ValueConnector(5, 100);
        x.account(-1000, 1000, 2);
        x.account(-1000, 1000, 1);
        x.account(-1000, 1000, 1);
        x.learn(1, Check.text("b"), 1);
        x.learn(2, Check.text("c"), 1);
        return x;
    }

    private static void locks() {
        Check.sentence("The LOCK of a long k is x xor (x >>> 7), where x is k * k + 41");
        ValueConnector x = new ValueConnector(1, 1);
        Check.due("lock(0)", x.lock(0), 41);
        Check.due("lock(1)", x.lock(1), 42);
        Check.due("lock(-1)", x.lock(-1), 42);
        Check.due("lock(7)", x.lock(7), 90);
        Check.due("lock(-7)", x.lock(-7), 90);
        Check.due("lock(9)", x.lock(9), 122);
        Check.due("lock(10)", x.lock(10), 141 ^ 1);
        Check.due("lock(1000)", x.lock(1000), 1000041 ^ 7812);
        Check.due("lock(46341), whose square is no int", x.lock(46341), 2147488322L ^ 16777252L);
        Refusal.is(90, "lock(7)", y -> y.lock(7));
    }

    private static void wrappingLocks() {
        Check.sentence("all as longs, which wrap");
        ValueConnector x = new ValueConnector(1, 1);
        Check.due("the last square below 2^63", x.lock(3037000499L), 9151314448783024106L);
        Check.due("the first beyond it", x.lock(3037000500L), -9151314442670402244L);
        Check.due("the same of a key below 0", x.lock(-3037000500L), -9151314442670402244L);
        Check.due("the last square below 2^64", x.lock(4294967295L), -144115179553030102L);
        Check.due("lock(2^32)", x.lock(1L << 32), 41);
        Check.due("lock(2^32 + 1)", x.lock((1L << 32) + 1), 8657043498L);
        Check.due("a square that wraps to 2^63 - 47", x.lock(6699029187742607817L), 9151314442816847877L);
        Check.due("one to 2^63 - 39: 41 more wraps", x.lock(2585728659930971237L), -9151314442816847870L);
        Check.due("one to -47", x.lock(2087343169315219913L), -144115188075855867L);
        Check.due("one to -39: 41 more is 2", x.lock(7197414678358359141L), 2);
        Check.due("lock(least)", x.lock(Long.MIN_VALUE), 41);
        Check.due("lock(most)", x.lock(Long.MAX_VALUE), 42);
    }

    private static void fulfilling() {
        Check.sentence("the outgoing amount is added to b's balance");
        ValueConnector x = make();
        x.prepare(0, 98, 100, 50, x.lock(123456789012L));
        Check.due("fulfil", x.fulfil(0, 123456789012L), 0);
        Check.due("state", x.state(0), ValueConnector.FULFILLED);
        Check.due("the payer", x.balance(0), -100);
        Check.due("the payee", x.balance(1), 200);
        Check.due("the third", x.balance(2), 0);
    }

    private static void dueFits(long key, long condition) {
        ValueConnector x = make();
        x.prepare(0, 98, 1, 50, condition);
        Check.due("fulfil(0, " + key + ")", x.fulfil(0, key), 0);
        Check.due("the key of it", x.transfer(0, 3), key);
    }

    private static void everyKeyThatFits() {
        Check.sentence("FULFILLED by a key whose lock is its condition");
        dueFits(7, 90);
        dueFits(-7, 90);
        dueFits(0, 41);
        dueFits(1L << 32, 41);
        dueFits(Long.MIN_VALUE, 41);
        dueFits(-1, 42);
        dueFits(Long.MAX_VALUE, 42);
        dueFits(3037000500L, -9151314442670402244L);
        dueFits(7197414678358359141L, 2);
    }

    private static void fulfilOfNoTransfer() {
        Check.sentence("-1 when there is no such transfer");
        for (int n : NO_TRANSFERS) {
            Refusal.is(-1, "fulfil(" + n + ", 7)", x -> x.fulfil(n, 7));
            Refusal.is(-1, "fulfil(" + n + ", 8)", x -> x.fulfil(n, 8));
        }
        Check.due("the last one", Past.busy().fulfil(Past.TRANSFERS - 1, 1), 0);
    }

    private static void fulfilOfNotPending() {
        Check.sentence("-2 when it is not pending");
        for (int n : ENDED) {
            Refusal.is(-2, "fulfil(" + n + ", 7)", x -> x.fulfil(n, 7));
            Refusal.is(-2, "the other key of " + n, x -> x.fulfil(n, -7));
            Refusal.is(-2, "a wrong key of " + n, x -> x.fulfil(n, 8));
        }
        Check.due("a pending one", Past.busy().fulfil(Past.PENDING, 7), 0);
    }

    private static void fulfilByWrongKey() {
        Check.sentence("-3 when the key's lock is not its condition; nothing changes then");
        for (long key : new long[] {8, 6, 0, 90, -90, 7 + (1L << 32), Long.MIN_VALUE, Long.MAX_VALUE}) {
            Refusal.is(-3, "fulfil(3, " + key + ")", x -> x.fulfil(Past.PENDING, key));
        }
        ValueConnector x = make();
        x.prepare(0, 98, 1, 50, 90 + (1L << 32));
        Check.due("a condition that differs in its upper half", x.fulfil(0, 7), -3);
        Check.due("the right key", Past.busy().fulfil(Past.PENDING, 7), 0);
    }

    private static void rejecting() {
        Check.sentence("REJECTED by b: the amount is added to a's balance");
        ValueConnector x = make();
        x.prepare(0, 98, 100, 50, 90);
        x.prepare(0, 99, 30, 50, 90);
        Check.due("reject(0)", x.reject(0), 0);
        Check.due("state", x.state(0), ValueConnector.REJECTED);
        Check.due("the other is pending", x.state(1), ValueConnector.PENDING);
        Check.due("paid back", x.balance(0), -30);
        Check.due("nothing paid out", x.balance(1), 0);
        Check.due("no key", x.transfer(0, 3), 0);
    }

    private static void rejectOfNoTransfer() {
        Check.sentence("-1 when there is no such transfer");
        for (int n : NO_TRANSFERS) {
            Refusal.is(-1, "reject(" + n + ")", x -> x.reject(n));
        }
        Check.due("the last one", Past.busy().reject(Past.TRANSFERS - 1), 0);
    }

    private static void rejectOfNotPending() {
        Check.sentence("-2 when it is not pending");
        for (int n : ENDED) {
            Refusal.is(-2, "reject(" + n + ")", x -> x.reject(n));
        }
        Check.due("a pending one", Past.busy().reject(Past.PENDING), 0);
    }

    private static void endedStaysEnded() {
        Check.sentence("A pending transfer ends in one of three ways, and stays so");
        ValueConnector x = make();
        for (int i = 0; i < 3; i++) {
            x.prepare(0, 98, 10, 50, 90);
        }
        x.fulfil(0, 7);
        x.reject(1);
        Check.due("one lapses", x.advance(45), 1);
        int[] ends = {ValueConnector.FULFILLED, ValueConnector.REJECTED, ValueConnector.LAPSED};
        for (int n = 0; n < 3; n++) {
            Check.due("fulfil " + n, x.fulfil(n, 7), -2);
            Check.due("reject " + n, x.reject(n), -2);
            Check.due("state " + n, x.state(n), ends[n]);
        }
        Check.due("none lapses again", x.advance(1000), 0);
        for (int n = 0; n < 3; n++) {
            Check.due("state later " + n, x.state(n), ends[n]);
        }
        Check.due("the payer", x.balance(0), -10);
        Check.due("the payee", x.balance(1), 20);
    }

    private static void lapsing() {
        Check.sentence("LAPSED, when the clock comes to its outgoing expiry: the same");
        ValueConnector x = make();
        x.prepare(0, 98, 10, 50, 90);
        x.prepare(0, 99, 20, 51, 90);
        Check.due("to 44", x.advance(44), 0);
        Check.due("pending at 44", x.state(0), ValueConnector.PENDING);
        Check.due("held back at 44", x.balance(0), -30);
        Check.due("to 45", x.advance(1), 1);
        Check.due("lapsed at 45", x.state(0), ValueConnector.LAPSED);
        Check.due("the other is pending at 45", x.state(1), ValueConnector.PENDING);
        Check.due("paid back at 45", x.balance(0), -20);
        Check.due("far beyond 46", x.advance(1000), 1);
        Check.due("lapsed far beyond", x.state(1), ValueConnector.LAPSED);
        Check.due("all is back", x.balance(0), 0);
        Check.due("nothing was paid", x.balance(1) + x.balance(2), 0);
    }

    private static void inTime() {
        Check.sentence("LAPSED, when the clock comes to its outgoing expiry");
        ValueConnector x = make();
        for (int i = 0; i < 4; i++) {
            x.prepare(0, 98, 10, 50, 90);
        }
        x.advance(44);
        Check.due("a key at 44", x.fulfil(0, 7), 0);
        Check.due("a rejection at 44", x.reject(1), 0);
        Check.due("to 45", x.advance(1), 2);
        Check.due("a key at 45", x.fulfil(2, 7), -2);
        Check.due("a rejection at 45", x.reject(3), -2);
        Check.due("the payer", x.balance(0), -10);
        Check.due("the payee", x.balance(1), 20);
    }

    private static void howManyLapse() {
        Check.sentence("The clock goes n ticks on, and transfers lapse: how many");
        ValueConnector x = make();
        for (int i = 0; i < 120; i++) {
            x.prepare(0, 98, 1, 10 + i, 90);
        }
        Check.due("no tick", x.advance(0), 0);
        Check.due("none of them", x.advance(4), 0);
        Check.due("three of them", x.advance(3), 3);
        Check.due("those are back", x.balance(0), -117);
        Check.due("no tick more", x.advance(0), 0);
        x.reject(3);
        x.fulfil(4, 7);
        Check.due("the others", x.advance(100000), 115);
        Check.due("all are back but one", x.balance(0), -1);
    }

    private static void advanceEdges() {
        Check.sentence("NONE when n is not 0 .. 100000");
        for (int n : new int[] {-1, 100001, LEAST, MOST}) {
            Refusal.is(-1, "advance(" + n + ")", x -> x.advance(n));
        }
        Refusal.is(0, "advance(0)", x -> x.advance(0));
        ValueConnector x = make();
        Check.due("advance(100000)", x.advance(100000), 0);
        Check.due("now is 100000", x.prepare(0, 98, 10, 100000, 90), ValueConnector.EXPIRED);
        Check.due("and not later", x.prepare(0, 98, 10, 100001, 90), ValueConnector.BRIEF);
    }

    private static void clockGoesFar() {
        Check.sentence("An object is used for at most 512 calls after it has been made");
        ValueConnector x = make();
        for (int i = 0; i < 500; i++) {
            x.advance(100000);
        }
        Check.due("expired", x.prepare(0, 98, 10, 50000000, 90), ValueConnector.EXPIRED);
        Check.due("in time", x.prepare(0, 98, 10, MOST, 90), 0);
        Check.due("now and hold", x.transfer(0, 2), 50000100);
        Check.due("not yet", x.advance(99), 0);
        Check.due("then", x.advance(1), 1);
    }

    private static void states() {
        Check.sentence("How transfer n stands");
        int[] due = {ValueConnector.FULFILLED, ValueConnector.REJECTED, ValueConnector.LAPSED, ValueConnector.PENDING};
        for (int n = 0; n < due.length; n++) {
            Check.due("state(" + n + ")", Past.busy().state(n), due[n]);
        }
        Check.due("the last one of 120", Past.allTransfers().state(119), ValueConnector.PENDING);
    }

    private static void statesOfNone() {
        Check.sentence("NONE when there is none");
        for (int n : NO_TRANSFERS) {
            Refusal.is(-1, "state(" + n + ")", x -> x.state(n));
        }
    }

    private static void rowsOfTransfer() {
        Check.sentence("for what 0 the account that it goes to, 1 the outgoing amount, 2 the outgoing expiry");
        ValueConnector x = make();
        x.prepare(0, 99, 10, 50, 90);
        x.prepare(2, 98, 30, 60, 90);
        Check.due("goes to", x.transfer(0, 0), 2);
        Check.due("amount", x.transfer(0, 1), 20);
        Check.due("expiry", x.transfer(0, 2), 45);
        Check.due("the second goes to", x.transfer(1, 0), 1);
        Check.due("its amount", x.transfer(1, 1), 30);
        Check.due("its expiry", x.transfer(1, 2), 55);
        Refusal.is(1, "transfer(3, 0)", y -> y.transfer(3, 0));
    }

    private static void keyOfTransfer() {
        Check.sentence("3 the key by which it was fulfilled, or 0 if it was not");
        ValueConnector x = Past.busy();
        Check.due("fulfilled", x.transfer(Past.FULFILLED, 3), 7);
        Check.due("rejected", x.transfer(Past.REJECTED, 3), 0);
        Check.due("lapsed", x.transfer(Past.LAPSED, 3), 0);
        Check.due("pending", x.transfer(Past.PENDING, 3), 0);
        x.fulfil(Past.PENDING, 8);
        Check.due("after a wrong key", x.transfer(Past.PENDING, 3), 0);
        x.fulfil(Past.PENDING, -7);
        Check.due("after a right one", x.transfer(Past.PENDING, 3), -7);
        x.fulfil(Past.PENDING, 7);
        Check.due("the first one stays", x.transfer(Past.PENDING, 3), -7);
    }

    private static void transferOfNone() {
        Check.sentence("NONE when there is no such transfer");
        for (int n : NO_TRANSFERS) {
            for (int row = 0; row < 4; row++) {
                int what = row;
                Refusal.is(-1, "transfer(" + n + ", " + what + ")", x -> x.transfer(n, what));
            }
        }
    }

    private static void rowsThatAreNone() {
        Check.sentence("or what is none of these");
        for (int what : new int[] {-1, 4, LEAST, MOST}) {
            Refusal.is(-1, "transfer(0, " + what + ")", x -> x.transfer(0, what));
            Refusal.is(-1, "transfer(3, " + what + ")", x -> x.transfer(3, what));
        }
    }

    private static void rowsStay() {
        Check.sentence("Of transfer n");
        ValueConnector x = make();
        x.prepare(0, 99, 10, 50, 90);
        x.prepare(2, 98, 30, 60, 90);
        x.forget(2, 99);
        x.learn(1, 99, 1);
        x.worth(0, 9);
        x.spread(500);
        x.advance(10);
        Check.due("still goes to", x.transfer(0, 0), 2);
        Check.due("still the amount", x.transfer(0, 1), 20);
        Check.due("still the expiry", x.transfer(0, 2), 45);
        x.fulfil(0, 7);
        Check.due("paid to", x.balance(2), 20 - 30);
        Check.due("rows stay when it ends", x.transfer(0, 0) + x.transfer(0, 1) + x.transfer(0, 2), 67);
    }
}

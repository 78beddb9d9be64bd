/** Promise 10: prepare, its tests and their order. */
public final class PreparesTest {
    private static final int LEAST = Integer.MIN_VALUE;
    private static final int MOST = Integer.MAX_VALUE;

    public static void main(String[] args) {
        numbers();
        noAccount();
        malformed();
        full();
        expired();
        large();
        unreachable();
        brief();
        poor();
        great();
        order();
        refusedChangesNothing();
        conversion();
        Check.finish();
    }

    /** Account 0 pays, 1 has room, 2 takes at most 10, and the route of 0 leads back to itself. */
    private static ValueConnector make() {
        ValueConnector x = new ValueConnector(5, 100);
        x.account(-1000, 600, 1);
        x.account(-1000, 1000, 1);
        x.account(0, 10, 1);
        x.learn(0, Check.text("own"), 1);
        x.learn(1, Check.text("b"), 1);
        x.learn(2, Check.text("c"), 1);
        return x;
    }

    private static final long B = Check.text("bob");
    private static final long C = Check.text("c");
    private static final long OWN = Check.text("own");

    private static void numbers() {
        ValueConnector x = make();
        Check.due("the first", x.prepare(0, B, 1, 50, 0), 0);
        Check.due("a refused one", x.prepare(0, B, 601, 50, 0), ValueConnector.LARGE);
        Check.due("the second", x.prepare(0, C, 1, 50, 0), 1);
        Check.due("from another", x.prepare(1, OWN, 1, 50, 0), 2);
        Check.due("of nothing", x.prepare(0, B, 0, 50, 0), 3);
    }

    private static void noAccount() {
        ValueConnector x = make();
        int[] none = {-1, 3, 7, 8, LEAST, MOST};
        for (int a : none) {
            Check.due("from " + a, x.prepare(a, B, 1, 50, 0), ValueConnector.NO_ACCOUNT);
        }
    }

    private static void malformed() {
        ValueConnector x = make();
        Check.due("no letters", x.prepare(0, 0, 1, 50, 0), ValueConnector.MALFORMED);
        Check.due("seven letters", x.prepare(0, Check.text("bbbbbbb"), 1, 50, 0), ValueConnector.MALFORMED);
        Check.due("six letters", x.prepare(0, Check.text("bbbbbb"), 1, 50, 0), 0);
        Check.due("a great letter", x.prepare(0, Check.text("bB"), 1, 50, 0), ValueConnector.MALFORMED);
        Check.due("less than 0", x.prepare(0, B, -1, 50, 0), ValueConnector.MALFORMED);
        Check.due("the least amount", x.prepare(0, B, LEAST, 50, 0), ValueConnector.MALFORMED);
    }

    private static void full() {
        ValueConnector x = make();
        for (int i = 0; i < 120; i++) {
            Check.due("transfer " + i, x.prepare(0, B, 1, 50, 90), i);
            if (i % 3 == 0) {
                x.fulfil(i, 7);
            } else if (i % 3 == 1) {
                x.reject(i);
            }
        }
        long held = x.balance(0);
        Check.due("the 121st", x.prepare(0, B, 1, 50, 90), ValueConnector.FULL);
        Check.due("it holds nothing", x.balance(0), held);
        Check.due("it is not there", x.state(120), -1);
        Check.due("the last one is", x.state(119), ValueConnector.PENDING);
        x.advance(100);
        Check.due("ended ones count too", x.prepare(0, B, 1, 500, 90), ValueConnector.FULL);
    }

    private static void expired() {
        ValueConnector x = make();
        Check.due("at 0", x.prepare(0, B, 1, 0, 0), ValueConnector.EXPIRED);
        Check.due("before", x.prepare(0, B, 1, -1, 0), ValueConnector.EXPIRED);
        Check.due("long before", x.prepare(0, B, 1, LEAST, 0), ValueConnector.EXPIRED);
        Check.due("one later", x.prepare(0, B, 1, 1, 0), ValueConnector.BRIEF);
        x.advance(20);
        Check.due("at 20", x.prepare(0, B, 1, 20, 0), ValueConnector.EXPIRED);
        Check.due("at 20, one later", x.prepare(0, B, 1, 21, 0), ValueConnector.BRIEF);
    }

    private static void large() {
        ValueConnector x = make();
        Check.due("more than the limit", x.prepare(0, B, 601, 50, 0), ValueConnector.LARGE);
        Check.due("the most", x.prepare(0, B, MOST, 50, 0), ValueConnector.LARGE);
        Check.due("the limit", x.prepare(0, B, 600, 50, 0), 0);
    }

    private static void unreachable() {
        ValueConnector x = make();
        Check.due("no way", x.prepare(0, Check.text("q"), 1, 50, 0), ValueConnector.UNREACHABLE);
        Check.due("its own way", x.prepare(0, OWN, 1, 50, 0), ValueConnector.UNREACHABLE);
        Check.due("the same way for another", x.prepare(1, OWN, 1, 50, 0), 0);
        x.learn(1, Check.text("ow"), 1);
        x.learn(1, OWN, 2);
        Check.due("no second best way", x.prepare(0, OWN, 1, 50, 0), ValueConnector.UNREACHABLE);
        x.learn(1, OWN, 1);
        Check.due("an equal one of a greater number", x.prepare(0, OWN, 1, 50, 0), ValueConnector.UNREACHABLE);
        x.learn(0, OWN, 2);
        Check.due("a better one", x.prepare(0, OWN, 1, 50, 0), 1);
    }

    private static void brief() {
        ValueConnector x = make();
        Check.due("the margin", x.prepare(0, B, 1, 5, 0), ValueConnector.BRIEF);
        Check.due("one more", x.prepare(0, B, 1, 6, 0), 0);
        Check.due("expiry less margin", x.transfer(0, 2), 1);
        x.prepare(0, B, 1, 104, 0);
        Check.due("just before the hold", x.transfer(1, 2), 99);
        x.prepare(0, B, 1, 105, 0);
        Check.due("at the hold", x.transfer(2, 2), 100);
        x.prepare(0, B, 1, 106, 0);
        Check.due("after the hold", x.transfer(3, 2), 100);
        x.prepare(0, B, 1, MOST, 0);
        Check.due("long after the hold", x.transfer(4, 2), 100);
        x.advance(1000);
        Check.due("the margin later", x.prepare(0, B, 1, 1005, 0), ValueConnector.BRIEF);
        Check.due("one more later", x.prepare(0, B, 1, 1006, 0), 5);
        Check.due("expiry less margin later", x.transfer(5, 2), 1001);
        x.prepare(0, B, 1, MOST, 0);
        Check.due("hold later", x.transfer(6, 2), 1100);
    }

    private static void poor() {
        ValueConnector x = make();
        x.prepare(0, B, 600, 50, 90);
        Check.due("below the minimum", x.prepare(0, B, 401, 50, 0), ValueConnector.POOR);
        Check.due("to the minimum", x.prepare(0, B, 400, 50, 0), 1);
        Check.due("one below", x.prepare(0, B, 1, 50, 0), ValueConnector.POOR);
        Check.due("nothing is always there", x.prepare(0, B, 0, 50, 0), 2);
        x.fulfil(0, 7);
        Check.due("paid out is not back", x.prepare(0, B, 1, 50, 0), ValueConnector.POOR);
        x.reject(1);
        Check.due("paid back is", x.prepare(0, B, 400, 50, 0), 3);
        ValueConnector y = make();
        Check.due("a minimum of 0", y.prepare(2, B, 1, 50, 0), ValueConnector.POOR);
        y.credit(2, 1, 1);
        Check.due("all of it", y.prepare(2, B, 1, 50, 0), 0);
    }

    private static void great() {
        ValueConnector x = make();
        Check.due("more than the limit of the way", x.prepare(0, C, 11, 50, 0), ValueConnector.GREAT);
        Check.due("the limit of the way", x.prepare(0, C, 10, 50, 0), 0);
        x.worth(2, 2);
        Check.due("22 halves", x.prepare(0, C, 22, 50, 0), ValueConnector.GREAT);
        Check.due("21 halves, rounded down", x.prepare(0, C, 21, 50, 0), 1);
        Check.due("the outgoing amount", x.transfer(1, 1), 10);
        x.worth(0, 2);
        x.spread(100);
        Check.due("12 less a tenth", x.prepare(0, C, 12, 50, 0), 2);
        Check.due("13 less a tenth", x.prepare(0, C, 13, 50, 0), ValueConnector.GREAT);
    }

    /** Each call fails one test fewer than the one before it. */
    private static void order() {
        ValueConnector x = make();
        x.bucket(0, 1, 0);
        x.prepare(0, B, 600, 50, 0);
        x.advance(10);
        Check.due("NO_ACCOUNT first", x.prepare(9, 0, -1, 0, 0), ValueConnector.NO_ACCOUNT);
        Check.due("MALFORMED by address", x.prepare(0, 0, 601, 0, 0), ValueConnector.MALFORMED);
        Check.due("MALFORMED by amount", x.prepare(0, OWN, -1, 0, 0), ValueConnector.MALFORMED);
        Check.due("EXPIRED", x.prepare(0, OWN, 601, 10, 0), ValueConnector.EXPIRED);
        Check.due("LARGE", x.prepare(0, OWN, 601, 11, 0), ValueConnector.LARGE);
        Check.due("PACED", x.prepare(0, OWN, 600, 11, 0), ValueConnector.PACED);
        x.bucket(0, 1, 0);
        Check.due("UNREACHABLE", x.prepare(0, OWN, 600, 11, 0), ValueConnector.UNREACHABLE);
        x.bucket(0, 1, 0);
        Check.due("BRIEF", x.prepare(0, C, 600, 15, 0), ValueConnector.BRIEF);
        x.bucket(0, 1, 0);
        Check.due("POOR", x.prepare(0, C, 600, 16, 0), ValueConnector.POOR);
        x.bucket(0, 1, 0);
        Check.due("GREAT", x.prepare(0, C, 400, 16, 0), ValueConnector.GREAT);
        x.bucket(0, 1, 0);
        Check.due("none fails", x.prepare(0, C, 10, 16, 0), 1);
        fullInOrder();
    }

    private static void fullInOrder() {
        ValueConnector x = make();
        for (int i = 0; i < 120; i++) {
            x.prepare(0, B, 0, 50, 0);
        }
        Check.due("NO_ACCOUNT before FULL", x.prepare(9, B, 1, 50, 0), ValueConnector.NO_ACCOUNT);
        Check.due("MALFORMED before FULL", x.prepare(0, 0, 1, 50, 0), ValueConnector.MALFORMED);
        Check.due("amount before FULL", x.prepare(0, B, -1, 50, 0), ValueConnector.MALFORMED);
        Check.due("FULL before EXPIRED", x.prepare(0, B, 1, 0, 0), ValueConnector.FULL);
        Check.due("FULL before LARGE", x.prepare(0, B, 601, 50, 0), ValueConnector.FULL);
    }

    private static void refusedChangesNothing() {
        ValueConnector x = make();
        x.prepare(0, B, 600, 50, 90);
        x.prepare(0, C, 11, 50, 0);
        x.prepare(0, B, 600, 50, 0);
        x.prepare(0, OWN, 1, 50, 0);
        x.prepare(0, B, 1, 3, 0);
        Check.due("the payer's balance", x.balance(0), -600);
        Check.due("the way's balance", x.balance(1) + x.balance(2), 0);
        Check.due("one transfer", x.state(1), -1);
        Check.due("which is pending", x.state(0), ValueConnector.PENDING);
    }

    private static void conversion() {
        ValueConnector x = new ValueConnector(1, 1);
        x.account(-1000000000, 1000000000, 10000);
        x.account(-1000000000, 1000000000, 10000);
        x.account(-1000000000, 1000000000, 9999);
        x.learn(1, Check.text("b"), 1);
        x.learn(2, Check.text("c"), 1);
        x.learn(0, Check.text("a"), 1);
        Check.due("the most, to one of a lesser worth", x.prepare(0, C, 1000000000, 50, 0), ValueConnector.GREAT);
        Check.due("from one of a lesser worth", x.prepare(2, Check.text("a"), 1000000000, 50, 0), 0);
        Check.due("what goes out", x.transfer(0, 1), 999900000);
        Check.due("the most", x.prepare(0, B, 1000000000, 50, 0), 1);
        Check.due("goes out whole", x.transfer(1, 1), 1000000000);
        x.worth(1, 1);
        x.spread(999);
        Check.due("beyond an int on the way", x.prepare(1, Check.text("a"), 1000000000, 50, 0), 2);
        Check.due("a thousandth of a ten thousandth", x.transfer(2, 1), 100);
    }
}

/** Promises 5, 15 and 20: policy, credit, settlement. */
public final class SettlementsTest {
    private static final int LEAST = Integer.MIN_VALUE;
    private static final int MOST = Integer.MAX_VALUE;
    private int next = 0;
    private final ValueConnector x = new ValueConnector(1, 100000);

    private SettlementsTest() {
        x.account(-1000000, 1000000, 1);
        x.account(-500, 1000000, 1);
        x.account(0, 1000000, 1);
        x.learn(1, Check.text("b"), 1);
        x.learn(2, Check.text("c"), 1);
        x.learn(0, Check.text("a"), 1);
    }

    public static void main(String[] args) {
        policyEdges();
        refusedPolicyChangesNothing();
        policyDoesNotLook();
        noThreshold();
        thresholdReached();
        restGathers();
        restOutlastsPolicy();
        targetBelowZero();
        onlyThePayeeIsLookedAt();
        settlementNumbers();
        credits();
        creditKeys();
        creditKeysInOrder();
        creditKeysOfEachAccount();
        refusedCredits();
        creditDoesNotLook();
        Check.finish();
    }

    /** A payment from account 0, fulfilled at once. */
    private void pay(String to, int amount) {
        x.prepare(0, Check.text(to), amount, 1000000, 90);
        Check.due("paying " + amount + " to " + to, x.fulfil(next, 7), 0);
        next++;
    }

    private static void duePolicy(int a, int threshold, int target, int digits, boolean want) {
        SettlementsTest t = new SettlementsTest();
        String call = "policy(" + a + ", " + threshold + ", " + target + ", " + digits + ")";
        Check.due(call, t.x.policy(a, threshold, target, digits), want);
    }

    private static void policyEdges() {
        duePolicy(1, 1, 0, 0, true);
        duePolicy(1, 1000000000, 999999999, 3, true);
        duePolicy(1, 1, -500, 0, true);
        duePolicy(1, 1, -501, 0, false);
        duePolicy(2, 1, -1, 0, false);
        duePolicy(2, 1, 0, 0, true);
        duePolicy(1, 1, 1, 0, false);
        duePolicy(1, 100, 99, 0, true);
        duePolicy(1, 100, 100, 0, false);
        duePolicy(1, 100, 101, 0, false);
        duePolicy(1, 0, -1, 0, false);
        duePolicy(1, -1, -2, 0, false);
        duePolicy(1, LEAST, -2, 0, false);
        duePolicy(1, 1000000001, 0, 0, false);
        duePolicy(1, MOST, 0, 0, false);
        duePolicy(1, 100, LEAST, 0, false);
        duePolicy(1, 100, MOST, 0, false);
        duePolicy(1, 100, 0, -1, false);
        duePolicy(1, 100, 0, 4, false);
        duePolicy(1, 100, 0, LEAST, false);
        duePolicy(1, 100, 0, MOST, false);
        duePolicy(3, 100, 0, 0, false);
        duePolicy(-1, 100, 0, 0, false);
        duePolicy(8, 100, 0, 0, false);
        duePolicy(LEAST, 100, 0, 0, false);
        duePolicy(MOST, 100, 0, 0, false);
    }

    private static void refusedPolicyChangesNothing() {
        SettlementsTest t = new SettlementsTest();
        t.x.policy(1, 100, 10, 1);
        t.x.policy(1, 50, 50, 2);
        t.x.policy(1, 50, 20, 4);
        t.x.policy(1, 0, -20, 2);
        t.pay("b", 99);
        Check.due("the threshold stays", t.x.balance(1), 99);
        t.pay("b", 1);
        Check.due("the target stays", t.x.balance(1), 10);
        Check.due("the digits stay", t.x.settlement(0), 9 * 8 + 1);
    }

    private static void policyDoesNotLook() {
        SettlementsTest t = new SettlementsTest();
        t.pay("b", 500);
        Check.due("policy", t.x.policy(1, 100, 20, 1), true);
        Check.due("the balance stays", t.x.balance(1), 500);
        Check.due("nothing is settled", t.x.settlement(0), -1);
        t.pay("b", 0);
        Check.due("a payment of nothing looks", t.x.balance(1), 20);
        Check.due("and settles", t.x.settlement(0), 48 * 8 + 1);
    }

    private static void noThreshold() {
        SettlementsTest t = new SettlementsTest();
        t.pay("b", 1000);
        t.pay("b", 0);
        Check.due("nothing is taken", t.x.balance(1), 1000);
        Check.due("nothing is settled", t.x.settlement(0), -1);
    }

    private static void thresholdReached() {
        SettlementsTest t = new SettlementsTest();
        t.x.policy(1, 100, 20, 0);
        t.pay("b", 99);
        Check.due("one less", t.x.balance(1), 99);
        Check.due("nothing is settled", t.x.settlement(0), -1);
        t.pay("b", 1);
        Check.due("just that", t.x.balance(1), 20);
        Check.due("settled", t.x.settlement(0), 80 * 8 + 1);
        t.pay("b", 1000);
        Check.due("more than that", t.x.balance(1), 20);
        Check.due("settled again", t.x.settlement(1), 1000 * 8 + 1);
        Check.due("no third", t.x.settlement(2), -1);
    }

    private static void restGathers() {
        SettlementsTest t = new SettlementsTest();
        t.x.policy(1, 400, 0, 3);
        t.pay("b", 400);
        Check.due("all is taken", t.x.balance(1), 0);
        Check.due("but 400 is no unit", t.x.settlement(0), -1);
        t.pay("b", 599);
        Check.due("999 is no unit", t.x.settlement(0), -1);
        t.pay("b", 401);
        Check.due("1400 is one", t.x.settlement(0), 9);
        t.pay("b", 600);
        Check.due("1000 is one", t.x.settlement(1), 9);
        t.pay("b", 999);
        Check.due("no rest was left", t.x.settlement(2), -1);
        t.pay("b", 5001);
        Check.due("6000 is six", t.x.settlement(2), 49);
        Check.due("all is taken still", t.x.balance(1), 0);
    }

    private static void restOutlastsPolicy() {
        SettlementsTest t = new SettlementsTest();
        t.x.policy(1, 1, 0, 3);
        t.x.policy(2, 1, 0, 0);
        t.pay("b", 999);
        t.pay("c", 5);
        Check.due("the other's rest is its own", t.x.settlement(0), 5 * 8 + 2);
        Check.due("a policy keeps the rest", t.x.policy(1, 10, 0, 1), true);
        t.pay("b", 9);
        Check.due("below the threshold", t.x.settlement(1), -1);
        t.pay("b", 2);
        Check.due("999 and 11 are 101 tens", t.x.settlement(1), 101 * 8 + 1);
    }

    private static void targetBelowZero() {
        SettlementsTest t = new SettlementsTest();
        t.x.policy(1, 10, -300, 2);
        t.pay("b", 10);
        Check.due("down to the target", t.x.balance(1), -300);
        Check.due("310 are three hundreds", t.x.settlement(0), 25);
        t.pay("b", 310);
        Check.due("down again", t.x.balance(1), -300);
        Check.due("10 and 310 are three more", t.x.settlement(1), 25);
        t.pay("b", 380);
        Check.due("20 and 380 are four", t.x.settlement(2), 33);
    }

    private static void onlyThePayeeIsLookedAt() {
        SettlementsTest t = new SettlementsTest();
        t.x.credit(0, 1, 700);
        t.x.credit(2, 1, 700);
        t.x.policy(0, 10, 0, 0);
        t.x.policy(2, 10, 0, 0);
        t.pay("b", 5);
        Check.due("the payer is not", t.x.balance(0), 695);
        Check.due("nor a third", t.x.balance(2), 700);
        t.x.prepare(0, 98, 100, 1000000, 90);
        t.x.reject(1);
        t.x.prepare(0, 98, 100, 10, 90);
        t.x.advance(50);
        Check.due("nor one who is paid back", t.x.balance(0), 695);
        Check.due("nothing is settled", t.x.settlement(0), -1);
        t.x.prepare(0, 99, 100, 1000000, 90);
        t.x.fulfil(3, 8);
        t.x.fulfil(2, 7);
        Check.due("nor for a wrong key", t.x.balance(2), 700);
    }

    private static void settlementNumbers() {
        SettlementsTest t = new SettlementsTest();
        t.x.policy(1, 1, 0, 0);
        t.x.policy(2, 1, 0, 0);
        for (int i = 0; i < 120; i++) {
            t.pay(i % 2 == 0 ? "b" : "c", i + 1);
        }
        for (int i = 0; i < 120; i++) {
            Check.due("settlement " + i, t.x.settlement(i), (i + 1) * 8 + 1 + i % 2);
        }
        int[] none = {-1, 120, 121, LEAST, MOST};
        for (int n : none) {
            Check.due("settlement(" + n + ")", t.x.settlement(n), -1);
        }
    }

    private static void credits() {
        SettlementsTest t = new SettlementsTest();
        Check.due("no digits at first", t.x.credit(0, 1, 7), 0);
        Check.due("units of one", t.x.balance(0), 7);
        int unit = 1;
        long want = 0;
        for (int digits = 0; digits < 4; digits++) {
            t.x.policy(1, 1000000000, 0, digits);
            Check.due("credit with digits " + digits, t.x.credit(1, digits, 3), 0);
            want += 3 * unit;
            Check.due("balance with digits " + digits, t.x.balance(1), want);
            unit *= 10;
        }
        Check.due("the most units", t.x.credit(1, 9, 1000000), 0);
        Check.due("balance with the most", t.x.balance(1), want + 1000000000);
        for (int i = 0; i < 3; i++) {
            t.x.credit(1, 100 + i, 1000000);
        }
        Check.due("beyond an int", t.x.balance(1), want + 4000000000L);
        Check.due("the others have none of it", t.x.balance(2), 0);
    }

    private static void creditKeys() {
        SettlementsTest t = new SettlementsTest();
        Check.due("key 0", t.x.credit(1, 0, 5), 0);
        Check.due("key 0 again", t.x.credit(1, 0, 5), 1);
        Check.due("with other units", t.x.credit(1, 0, 6), 1);
        Check.due("it is added once", t.x.balance(1), 5);
        Check.due("key -1", t.x.credit(1, -1, 5), 0);
        Check.due("the least key", t.x.credit(1, LEAST, 5), 0);
        Check.due("the greatest key", t.x.credit(1, MOST, 5), 0);
        Check.due("the least key again", t.x.credit(1, LEAST, 5), 1);
        Check.due("the greatest key again", t.x.credit(1, MOST, 5), 1);
        Check.due("units 0", t.x.credit(1, 77, 0), 0);
        Check.due("units 0 remembers the key", t.x.credit(1, 77, 5), 1);
        Check.due("balance", t.x.balance(1), 20);
    }

    private static void creditKeysInOrder() {
        SettlementsTest t = new SettlementsTest();
        for (int key = 1; key <= 8; key++) {
            Check.due("key " + key, t.x.credit(1, key, 1), 0);
        }
        for (int key = 1; key <= 8; key++) {
            Check.due("known key " + key, t.x.credit(1, key, 1), 1);
        }
        Check.due("a ninth", t.x.credit(1, 9, 1), 0);
        Check.due("the second is known", t.x.credit(1, 2, 1), 1);
        Check.due("the first is not, though it was asked for since", t.x.credit(1, 1, 1), 0);
        Check.due("which drops the second", t.x.credit(1, 2, 1), 0);
        int[] known = {4, 5, 6, 7, 8, 9, 1, 2};
        for (int key : known) {
            Check.due("still known: " + key, t.x.credit(1, key, 1), 1);
        }
        for (int key = 20; key < 60; key++) {
            Check.due("new key " + key, t.x.credit(1, key, 1), 0);
            Check.due("its eighth last " + key, t.x.credit(1, key < 27 ? key : key - 7, 1), 1);
        }
        Check.due("balance", t.x.balance(1), 51);
    }

    private static void creditKeysOfEachAccount() {
        SettlementsTest t = new SettlementsTest();
        Check.due("for 1", t.x.credit(1, 5, 1), 0);
        Check.due("for 2", t.x.credit(2, 5, 1), 0);
        for (int key = 10; key < 18; key++) {
            t.x.credit(2, key, 1);
        }
        Check.due("1 still knows it", t.x.credit(1, 5, 1), 1);
        Check.due("2 does not", t.x.credit(2, 5, 1), 0);
    }

    private static void refusedCredits() {
        SettlementsTest t = new SettlementsTest();
        int[] wrongUnits = {-1, 1000001, LEAST, MOST};
        for (int units : wrongUnits) {
            Check.due("credit(1, 5, " + units + ")", t.x.credit(1, 5, units), -1);
        }
        Check.due("the key was not kept", t.x.credit(1, 5, 1), 0);
        for (int units : wrongUnits) {
            Check.due("credit of a known key, " + units, t.x.credit(1, 5, units), -1);
        }
        int[] none = {-1, 3, 8, LEAST, MOST};
        for (int a : none) {
            Check.due("credit(" + a + ", 5, 1)", t.x.credit(a, 5, 1), -1);
        }
        Check.due("balance", t.x.balance(1), 1);
        for (int key = 10; key < 17; key++) {
            t.x.credit(1, key, 1);
            t.x.credit(1, key + 100, 1000001);
        }
        Check.due("refused ones push none out", t.x.credit(1, 5, 1), 1);
    }

    private static void creditDoesNotLook() {
        SettlementsTest t = new SettlementsTest();
        t.x.policy(1, 100, 0, 0);
        t.x.credit(1, 1, 1000);
        Check.due("the balance stays", t.x.balance(1), 1000);
        Check.due("nothing is settled", t.x.settlement(0), -1);
        t.pay("b", 1);
        Check.due("the next payment settles it", t.x.settlement(0), 1001 * 8 + 1);
    }
}

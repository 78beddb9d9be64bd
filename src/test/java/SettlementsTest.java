/** Promises 5, 15 and 20: policy, credit, settlement. */
public final class SettlementsTest {
    private static final int LEAST = Integer.MIN_VALUE;
    private static final int MOST = Integer.MAX_VALUE;
    private static final int BILLION = 1000000000;
    private int next = 0;
    private final ValueConnector x = new ValueConnector(1, 100000);

    private SettlementsTest() {
        x.account(-BILLION, BILLION, 1);
        x.account(-500, BILLION, 1);
        x.account(0, BILLION, 1);
        x.learn(1, Check.text("b"), 1);
        x.learn(2, Check.text("c"), 1);
        x.learn(0, Check.text("a"), 1);
    }

    public static void main(String[] args) {
        noThresholdAtFirst();
        noDigitsAtFirst();
        noRestAtFirst();
        policyDoesNotLook();
        policyOfNoAccount();
        thresholdEdges();
        targetBelowMinimum();
        targetBelowThreshold();
        digitsEdges();
        thresholdReached();
        targetIsLeft();
        roundedDown();
        restGathers();
        restOutlastsPolicy();
        onlyThePayeeIsLookedAt();
        credits();
        knownKeys();
        lastEightKeys();
        differentKeys();
        keysOfEachAccount();
        creditOfNoAccount();
        unitsEdges();
        creditDoesNotLook();
        settlementNumbers();
        settlementRows();
        settlementOfNone();
        Check.finish();
    }

    /** A payment from account 0, fulfilled at once. */
    private void pay(String to, int amount) {
        x.prepare(0, Check.text(to), amount, 1000000, 90);
        Check.due("paying " + amount + " to " + to, x.fulfil(next, 7), 0);
        next++;
    }

    private static void noThresholdAtFirst() {
        Check.sentence("at first no threshold");
        SettlementsTest t = new SettlementsTest();
        t.pay("b", BILLION);
        Check.due("nothing is taken", t.x.balance(1), BILLION);
        Check.due("nothing is settled", t.x.settlement(0), -1);
        t.pay("c", 0);
        Check.due("nor of a balance of 0", t.x.settlement(0), -1);
    }

    private static void noDigitsAtFirst() {
        Check.sentence("target 0, digits 0");
        SettlementsTest t = new SettlementsTest();
        Check.due("credit", t.x.credit(0, 1, 7), 0);
        Check.due("in units of one", t.x.balance(0), 7);
    }

    private static void noRestAtFirst() {
        Check.sentence("and a REST (0 at first)");
        SettlementsTest t = new SettlementsTest();
        t.x.policy(1, 1, 0, 3);
        t.pay("b", 999);
        Check.due("999 is no unit", t.x.settlement(0), -1);
        t.pay("b", 1);
        Check.due("1000 is one", t.x.settlement(0), 9);
    }

    private static void policyDoesNotLook() {
        Check.sentence("and does not look at it for settlement");
        SettlementsTest t = new SettlementsTest();
        t.pay("b", 500);
        Check.due("policy", t.x.policy(1, 100, 20, 1), true);
        Check.due("the balance stays", t.x.balance(1), 500);
        Check.due("nothing is settled", t.x.settlement(0), -1);
        t.pay("b", 0);
        Check.due("a payment of nothing looks", t.x.balance(1), 20);
        Check.due("and settles", t.x.settlement(0), 48 * 8 + 1);
    }

    private static void dueRefused(int a, int threshold, int target, int digits) {
        String call = "policy(" + a + ", " + threshold + ", " + target + ", " + digits + ")";
        Refusal.isFalse(call, y -> y.policy(a, threshold, target, digits));
    }

    private static void policyOfNoAccount() {
        Check.sentence("False when there is no such account");
        for (int a : Past.NO_ACCOUNTS) {
            dueRefused(a, 100, 0, 0);
        }
        Check.due("of the first account", Past.busy().policy(0, 100, 0, 0), true);
        Check.due("of the last account", Past.busy().policy(Past.ACCOUNTS - 1, 100, 0, 0), true);
    }

    private static void thresholdEdges() {
        Check.sentence("threshold is not 1 .. 1000000000");
        SettlementsTest t = new SettlementsTest();
        Check.due("the least", t.x.policy(1, 1, 0, 0), true);
        t.pay("b", 0);
        Check.due("0 does not reach it", t.x.settlement(0), -1);
        t.pay("b", 1);
        Check.due("1 does", t.x.settlement(0), 9);
        Check.due("the greatest", t.x.policy(1, BILLION, 0, 0), true);
        t.pay("b", BILLION - 2);
        Check.due("2 less do not reach it", t.x.balance(1), BILLION - 2);
        t.pay("b", 1);
        Check.due("nor 1 less", t.x.balance(1), BILLION - 1);
        t.x.credit(0, 1, 1);
        t.pay("b", 1);
        Check.due("that does", t.x.settlement(1), BILLION * 8L + 1);
        for (int threshold : new int[] {0, -1, LEAST}) {
            dueRefused(1, threshold, -500, 0);
        }
        for (int threshold : new int[] {BILLION + 1, MOST}) {
            dueRefused(1, threshold, 0, 0);
        }
    }

    private static void targetBelowMinimum() {
        Check.sentence("target is less than the account's minimum");
        SettlementsTest t = new SettlementsTest();
        Check.due("the minimum", t.x.policy(1, 1, -500, 0), true);
        t.pay("b", 1);
        Check.due("the balance comes down to it", t.x.balance(1), -500);
        Check.due("a minimum of 0", t.x.policy(2, 1, 0, 0), true);
        Check.due("one less than 0", t.x.policy(2, 1, -1, 0), false);
        Check.due("the least minimum", t.x.policy(0, 1, -BILLION, 0), true);
        Check.due("one less than that", t.x.policy(0, 1, -BILLION - 1, 0), false);
        for (int target : new int[] {-501, -BILLION, LEAST}) {
            dueRefused(1, 1, target, 0);
        }
    }

    private static void targetBelowThreshold() {
        Check.sentence("or not less than threshold");
        SettlementsTest t = new SettlementsTest();
        Check.due("one less", t.x.policy(1, 100, 99, 0), true);
        t.pay("b", 100);
        Check.due("the balance comes down to it", t.x.balance(1), 99);
        Check.due("one less than the greatest", t.x.policy(1, BILLION, BILLION - 1, 0), true);
        Check.due("one less than the least", t.x.policy(1, 1, 0, 0), true);
        for (int target : new int[] {100, 101, MOST}) {
            dueRefused(1, 100, target, 0);
        }
        dueRefused(1, 1, 1, 0);
        dueRefused(1, BILLION, BILLION, 0);
    }

    private static void digitsEdges() {
        Check.sentence("or digits is not 0 .. 3");
        int unit = 1;
        for (int digits = 0; digits <= 3; digits++) {
            SettlementsTest t = new SettlementsTest();
            Check.due("digits " + digits, t.x.policy(1, 1, 0, digits), true);
            t.pay("b", 7654);
            Check.due("settled with digits " + digits, t.x.settlement(0), 7654 / unit * 8 + 1);
            unit *= 10;
        }
        for (int digits : new int[] {-1, 4, LEAST, MOST}) {
            dueRefused(1, 100, 0, digits);
        }
    }

    private static void thresholdReached() {
        Check.sentence("SETTLEMENT of an account with a threshold, whose balance is that or more");
        SettlementsTest t = new SettlementsTest();
        t.x.policy(1, 100, 20, 0);
        t.pay("b", 99);
        Check.due("one less", t.x.balance(1), 99);
        Check.due("nothing is settled", t.x.settlement(0), -1);
        t.pay("b", 1);
        Check.due("just that", t.x.balance(1), 20);
        Check.due("settled", t.x.settlement(0), 80 * 8 + 1);
        t.pay("b", 81);
        Check.due("one more", t.x.balance(1), 20);
        Check.due("settled again", t.x.settlement(1), 81 * 8 + 1);
        t.pay("b", 79);
        Check.due("one less again", t.x.balance(1), 99);
        Check.due("no third", t.x.settlement(2), -1);
        t.x.policy(2, BILLION, 0, 3);
        for (int key = 0; key < 5; key++) {
            t.x.credit(2, key, 1000000);
        }
        t.pay("c", 0);
        Check.due("a balance beyond an int", t.x.settlement(2), 5000000 * 8 + 2);
        Check.due("is taken whole", t.x.balance(2), 0);
    }

    private static void targetIsLeft() {
        Check.sentence("the balance less the target is taken from the balance, and added to the rest");
        SettlementsTest t = new SettlementsTest();
        t.x.policy(1, 10, -300, 2);
        t.pay("b", 10);
        Check.due("down to a target below 0", t.x.balance(1), -300);
        Check.due("310 are three hundreds", t.x.settlement(0), 25);
        t.pay("b", 310);
        Check.due("down again", t.x.balance(1), -300);
        Check.due("10 and 310 are three more", t.x.settlement(1), 25);
        t.pay("b", 380);
        Check.due("20 and 380 are four", t.x.settlement(2), 33);
    }

    private static void roundedDown() {
        Check.sentence("the rest divided by 10^digits, rounded down, is SETTLED, .. if it is more than 0");
        int unit = 1;
        for (int digits = 1; digits <= 3; digits++) {
            unit *= 10;
            SettlementsTest t = new SettlementsTest();
            t.x.policy(1, 1, 0, digits);
            t.x.policy(2, 1, 0, digits);
            t.pay("b", unit - 1);
            Check.due("one less than a unit is taken", t.x.balance(1), 0);
            Check.due("but nothing is settled", t.x.settlement(0), -1);
            t.pay("c", unit);
            Check.due("a unit, with the first number", t.x.settlement(0), 10);
            t.pay("c", 2 * unit - 1);
            Check.due("one less than two units", t.x.settlement(1), 10);
            t.pay("c", 1);
            Check.due("the other one", t.x.settlement(2), 10);
        }
    }

    private static void restGathers() {
        Check.sentence("what remains of that division is the rest then");
        SettlementsTest t = new SettlementsTest();
        t.x.policy(1, 400, 0, 3);
        t.pay("b", 400);
        t.pay("b", 599);
        Check.due("999 is no unit", t.x.settlement(0), -1);
        t.pay("b", 401);
        Check.due("1400 is one", t.x.settlement(0), 9);
        t.pay("b", 599);
        Check.due("999 is none again", t.x.settlement(1), -1);
        t.pay("b", 400);
        Check.due("1399 is one", t.x.settlement(1), 9);
        t.pay("b", 601);
        Check.due("1000 is one", t.x.settlement(2), 9);
        t.pay("b", 999);
        Check.due("no rest was left", t.x.settlement(3), -1);
        t.pay("b", 5001);
        Check.due("6000 is six", t.x.settlement(3), 49);
        Check.due("all is taken", t.x.balance(1), 0);
    }

    private static void restOutlastsPolicy() {
        Check.sentence("Gives an account its threshold, target and digits");
        SettlementsTest t = new SettlementsTest();
        t.x.policy(1, 1, 0, 3);
        t.x.policy(2, 1, 0, 0);
        t.pay("b", 999);
        t.pay("c", 5);
        Check.due("the other's rest is its own", t.x.settlement(0), 5 * 8 + 2);
        Check.due("a new policy", t.x.policy(1, 10, 0, 1), true);
        t.pay("b", 9);
        Check.due("below its threshold", t.x.settlement(1), -1);
        t.pay("b", 2);
        Check.due("the rest is kept: 999 and 11 are 101 tens", t.x.settlement(1), 101 * 8 + 1);
    }

    private static void onlyThePayeeIsLookedAt() {
        Check.sentence("and b is looked at for settlement");
        SettlementsTest t = new SettlementsTest();
        t.x.credit(0, 1, 700);
        t.x.credit(2, 1, 700);
        t.x.policy(0, 10, 0, 0);
        t.x.policy(2, 10, 0, 0);
        t.pay("b", 5);
        Check.due("the payer is not", t.x.balance(0), 695);
        Check.due("nor a third", t.x.balance(2), 700);
        t.x.prepare(0, 98, 100, 1000000, 90);
        t.x.reject(1);
        t.x.prepare(0, 98, 100, 10, 90);
        t.x.advance(50);
        Check.due("nor one who is paid back", t.x.balance(0), 695);
        t.x.prepare(0, 99, 100, 1000000, 90);
        t.x.fulfil(3, 8);
        t.x.fulfil(2, 7);
        Check.due("nor for a refused key", t.x.balance(2), 700);
        Check.due("nothing is settled", t.x.settlement(0), -1);
        t.x.fulfil(3, 7);
        Check.due("but for the right one", t.x.settlement(0), 800 * 8 + 2);
    }

    private static void credits() {
        Check.sentence("of units in 10^digits each, is added to an account's balance: 0");
        SettlementsTest t = new SettlementsTest();
        int unit = 1;
        long want = 0;
        for (int digits = 0; digits < 4; digits++) {
            t.x.policy(1, BILLION, 0, digits);
            Check.due("credit with digits " + digits, t.x.credit(1, digits, 3), 0);
            want += 3 * unit;
            Check.due("balance with digits " + digits, t.x.balance(1), want);
            unit *= 10;
        }
        for (int i = 0; i < 4; i++) {
            t.x.credit(1, 100 + i, 1000000);
        }
        Check.due("beyond an int", t.x.balance(1), want + 4000000000L);
        Check.due("the others have none of it", t.x.balance(2), 0);
    }

    private static void knownKeys() {
        Check.sentence("1, changing nothing, when the key is one of the last 8 different keys");
        SettlementsTest t = new SettlementsTest();
        for (int key : new int[] {0, -1, LEAST, MOST, 77}) {
            Check.due("key " + key, t.x.credit(1, key, 5), 0);
        }
        for (int key : new int[] {77, MOST, LEAST, -1, 0}) {
            Check.due("again, key " + key, t.x.credit(1, key, 5), 1);
            Check.due("with other units, key " + key, t.x.credit(1, key, 6), 1);
        }
        Check.due("each was added once", t.x.balance(1), 25);
        Check.due("units 0", t.x.credit(1, 78, 0), 0);
        Check.due("its key is known too", t.x.credit(1, 78, 5), 1);
        for (int i = 2; i <= 9; i++) {
            int key = i;
            Refusal.is(1, "credit(1, " + key + ", 1)", y -> y.credit(1, key, 1));
        }
    }

    private static void lastEightKeys() {
        Check.sentence("one of the last 8 different keys that were answered 0 for this account");
        SettlementsTest t = new SettlementsTest();
        for (int key = 1; key <= 8; key++) {
            Check.due("key " + key, t.x.credit(1, key, 1), 0);
        }
        for (int key = 1; key <= 8; key++) {
            Check.due("known key " + key, t.x.credit(1, key, 1), 1);
        }
        Check.due("a ninth", t.x.credit(1, 9, 1), 0);
        for (int key = 9; key >= 2; key--) {
            Check.due("one of the last eight: " + key, t.x.credit(1, key, 1), 1);
        }
        Check.due("the first is none of them, though it was asked for since", t.x.credit(1, 1, 1), 0);
        for (int key = 20; key < 60; key++) {
            Check.due("new key " + key, t.x.credit(1, key, 1), 0);
            Check.due("the eighth last of " + key, t.x.credit(1, key < 27 ? key : key - 7, 1), 1);
        }
        Check.due("the ninth last", t.x.credit(1, 51, 1), 0);
        Check.due("balance", t.x.balance(1), 51);
    }

    private static void differentKeys() {
        Check.sentence("the last 8 different keys");
        SettlementsTest t = new SettlementsTest();
        for (int key = 1; key <= 9; key++) {
            t.x.credit(1, key, 1);
        }
        Check.due("the first comes back", t.x.credit(1, 1, 1), 0);
        Check.due("and drops the second", t.x.credit(1, 2, 1), 0);
        int[] known = {4, 5, 6, 7, 8, 9, 1, 2};
        for (int key : known) {
            Check.due("one of eight: " + key, t.x.credit(1, key, 1), 1);
        }
        Check.due("the third is gone", t.x.credit(1, 3, 1), 0);
    }

    private static void keysOfEachAccount() {
        Check.sentence("that were answered 0 for this account");
        SettlementsTest t = new SettlementsTest();
        Check.due("for 1", t.x.credit(1, 5, 1), 0);
        Check.due("for 2", t.x.credit(2, 5, 1), 0);
        for (int key = 10; key < 18; key++) {
            t.x.credit(2, key, 1);
        }
        Check.due("1 still knows it", t.x.credit(1, 5, 1), 1);
        Check.due("2 does not", t.x.credit(2, 5, 1), 0);
    }

    private static void creditOfNoAccount() {
        Check.sentence("NONE, whatever the key is, when there is no such account");
        for (int a : Past.NO_ACCOUNTS) {
            Refusal.is(-1, "credit(" + a + ", 0, 1)", y -> y.credit(a, 0, 1));
            Refusal.is(-1, "credit(" + a + ", 3, 1)", y -> y.credit(a, 3, 1));
        }
        Check.due("the last account", Past.busy().credit(Past.ACCOUNTS - 1, 3, 1), 0);
    }

    private static void unitsEdges() {
        Check.sentence("NONE, whatever the key is, when .. units is not 0 .. 1000000");
        SettlementsTest t = new SettlementsTest();
        Check.due("no units", t.x.credit(1, 1, 0), 0);
        Check.due("add nothing", t.x.balance(1), 0);
        Check.due("the most units", t.x.credit(1, 2, 1000000), 0);
        Check.due("add all", t.x.balance(1), 1000000);
        for (int units : new int[] {-1, 1000001, LEAST, MOST}) {
            for (int key : new int[] {0, 1, 2, 5, 9}) {
                Refusal.is(-1, "credit(1, " + key + ", " + units + ")", y -> y.credit(1, key, units));
            }
            Refusal.is(-1, "credit(3, 0, " + units + ")", y -> y.credit(3, 0, units));
        }
    }

    private static void creditDoesNotLook() {
        Check.sentence("(The account is not looked at for settlement.)");
        SettlementsTest t = new SettlementsTest();
        t.x.policy(1, 100, 0, 0);
        t.x.credit(1, 1, 100);
        Check.due("the balance stays", t.x.balance(1), 100);
        Check.due("nothing is settled", t.x.settlement(0), -1);
        t.pay("b", 1);
        Check.due("the next payment settles it", t.x.settlement(0), 101 * 8 + 1);
    }

    private static void settlementNumbers() {
        Check.sentence("with the next number from 0 on");
        SettlementsTest t = new SettlementsTest();
        t.x.policy(1, 1, 0, 0);
        t.x.policy(2, 1, 0, 0);
        for (int i = 0; i < 120; i++) {
            t.pay(i % 2 == 0 ? "b" : "c", i + 1);
        }
        for (int i = 0; i < 120; i++) {
            Check.due("settlement " + i, t.x.settlement(i), (i + 1) * 8 + 1 + i % 2);
        }
        Check.due("one more", t.x.settlement(120), -1);
    }

    private static void settlementRows() {
        Check.sentence("what was settled, times 8, and the account's number");
        ValueConnector y = new ValueConnector(1, 100000);
        for (int a = 0; a < 8; a++) {
            y.account(-BILLION, BILLION, 1);
            y.policy(a, 1, 0, 0);
            y.learn(a, 97 + a, 1);
        }
        for (int a = 0; a < 8; a++) {
            int payer = (a + 1) % 8;
            y.credit(payer, 1, 5);
            y.prepare(payer, 97 + a, 5, 50, 90);
            y.fulfil(a, 7);
            Check.due("of account " + a, y.settlement(a), 5 * 8 + a);
        }
        y.policy(7, 1, -BILLION, 0);
        y.prepare(0, 97 + 7, BILLION, 50, 90);
        y.fulfil(8, 7);
        Check.due("beyond an int", y.settlement(8), 2L * BILLION * 8 + 7);
    }

    private static void settlementOfNone() {
        Check.sentence("NONE when there is none");
        for (int n : new int[] {-1, 1, 2, 119, 120, LEAST, MOST}) {
            Refusal.is(-1, "settlement(" + n + ")", y -> y.settlement(n));
        }
        Refusal.is(9, "settlement(0)", y -> y.settlement(0));
    }
}

/** Promises 1 to 4, 16 and 17: a new object, account, worth, spread, balance, position. */
public final class AccountsTest {
    private static final int LEAST = Integer.MIN_VALUE;
    private static final int MOST = Integer.MAX_VALUE;
    private static final int BILLION = 1000000000;

    public static void main(String[] args) {
        newObject();
        margins();
        holds();
        noSpreadAtFirst();
        eightAccounts();
        firstBalance();
        minima();
        limits();
        worthsOfAccounts();
        worthOfNoAccount();
        worths();
        worthOfNowAtPrepare();
        spreads();
        balances();
        balanceOfNoAccount();
        positions();
        positionWithWorthsOfNow();
        Check.finish();
    }

    private static void newObject() {
        Check.sentence("ValueConnector(int margin, int hold)");
        ValueConnector x = new ValueConnector(5, 100);
        Check.due("new: balance(0)", x.balance(0), 0);
        Check.due("new: position()", x.position(), 0);
        Check.due("new: state(0)", x.state(0), -1);
        Check.due("new: transfer(0, 0)", x.transfer(0, 0), -1);
        Check.due("new: settlement(0)", x.settlement(0), -1);
        Check.due("new: drops(0)", x.drops(0), -1);
        Check.due("new: way(a)", x.way(97), -1);
        Check.due("new: worth(0, 1)", x.worth(0, 1), false);
        Check.due("new: forget(0, 0)", x.forget(0, 0), false);
        Check.due("new: prepare", x.prepare(0, 97, 1, 10, 0), ValueConnector.NO_ACCOUNT);
        Check.due("new: advance(0)", x.advance(0), 0);
    }

    /** Two accounts with much room, and a way to account 1 for every address. */
    private static ValueConnector pair(int margin, int hold) {
        ValueConnector x = new ValueConnector(margin, hold);
        x.account(-1000000, 1000000, 1);
        x.account(-1000000, 1000000, 1);
        x.learn(1, 0, 1);
        return x;
    }

    private static void dueMargin(int given, int margin) {
        ValueConnector x = pair(given, 100000);
        String name = "margin " + given + ": ";
        Check.due(name + "too brief", x.prepare(0, 97, 1, margin, 0), ValueConnector.BRIEF);
        Check.due(name + "just long enough", x.prepare(0, 97, 1, margin + 1, 0), 0);
        Check.due(name + "transfer(0, 2)", x.transfer(0, 2), 1);
        Check.due(name + "prepare", x.prepare(0, 97, 1, 50000, 0), 1);
        Check.due(name + "transfer(1, 2)", x.transfer(1, 2), 50000 - margin);
    }

    private static void margins() {
        Check.sentence("MARGIN is margin, or 10 if that is not 1 .. 1000");
        dueMargin(1, 1);
        dueMargin(2, 2);
        dueMargin(999, 999);
        dueMargin(1000, 1000);
        dueMargin(0, 10);
        dueMargin(-1, 10);
        dueMargin(1001, 10);
        dueMargin(LEAST, 10);
        dueMargin(MOST, 10);
    }

    private static void dueHold(int given, int hold) {
        ValueConnector x = pair(1, given);
        String name = "hold " + given + ": ";
        Check.due(name + "prepare", x.prepare(0, 97, 1, MOST, 0), 0);
        Check.due(name + "transfer(0, 2)", x.transfer(0, 2), hold);
        x.advance(7);
        Check.due(name + "prepare later", x.prepare(0, 97, 1, MOST, 0), 1);
        Check.due(name + "transfer(1, 2)", x.transfer(1, 2), hold + 7);
    }

    private static void holds() {
        Check.sentence("HOLD is hold, or 1000 if that is not 1 .. 100000");
        dueHold(1, 1);
        dueHold(2, 2);
        dueHold(99999, 99999);
        dueHold(100000, 100000);
        dueHold(0, 1000);
        dueHold(-1, 1000);
        dueHold(100001, 1000);
        dueHold(LEAST, 1000);
        dueHold(MOST, 1000);
    }

    private static void noSpreadAtFirst() {
        Check.sentence("SPREAD is 0");
        ValueConnector x = pair(0, 0);
        x.prepare(0, 97, 1000000, 50, 0);
        Check.due("all goes out", x.transfer(0, 1), 1000000);
    }

    private static void eightAccounts() {
        Check.sentence("Adds an account: its number; NONE when there are 8");
        ValueConnector x = new ValueConnector(1, 1);
        for (int i = 0; i < 8; i++) {
            Check.due("account " + i + " before", x.drops(i), -1);
            Check.due("account " + i, x.account(0, 1, 1), i);
            Check.due("account " + i + " after", x.drops(i), 100000);
        }
        Check.due("the ninth", x.account(0, 1, 1), -1);
        Check.due("drops(8)", x.drops(8), -1);
        Refusal.is(-1, "the ninth account", Past::eightAccounts, y -> y.account(0, 1, 1));
    }

    private static void firstBalance() {
        Check.sentence("have a BALANCE (a whole number, 0 at first, what the peer has with the connector)");
        ValueConnector x = new ValueConnector(1, 1);
        x.account(-10, 20, 30);
        Check.due("balance(0)", x.balance(0), 0);
        Check.due("position()", x.position(), 0);
    }

    private static void dueRefused(int minimum, int limit, int worth) {
        String call = "account(" + minimum + ", " + limit + ", " + worth + ")";
        Refusal.is(-1, call, x -> x.account(minimum, limit, worth));
    }

    private static void minima() {
        Check.sentence("minimum is not -1000000000 .. 0");
        ValueConnector x = new ValueConnector(1, 100);
        Check.due("the least minimum", x.account(-BILLION, BILLION, 1), 0);
        Check.due("the greatest minimum", x.account(0, BILLION, 1), 1);
        x.learn(0, 97, 1);
        x.learn(1, 98, 1);
        Check.due("down to the least", x.prepare(0, 98, BILLION, 50, 0), 0);
        Check.due("and not below it", x.prepare(0, 98, 1, 50, 0), ValueConnector.POOR);
        Check.due("nothing from the greatest", x.prepare(1, 97, 0, 50, 0), 1);
        Check.due("and not below that", x.prepare(1, 97, 1, 50, 0), ValueConnector.POOR);
        for (int minimum : new int[] {-BILLION - 1, 1, LEAST, MOST}) {
            dueRefused(minimum, 1, 1);
        }
    }

    private static void limits() {
        Check.sentence("limit not 1 .. 1000000000");
        ValueConnector x = new ValueConnector(1, 100);
        Check.due("the least limit", x.account(-BILLION, 1, 1), 0);
        Check.due("the greatest limit", x.account(-BILLION, BILLION, 1), 1);
        x.learn(0, 97, 1);
        x.learn(1, 98, 1);
        Check.due("1 from the least", x.prepare(0, 98, 1, 50, 0), 0);
        Check.due("and no more", x.prepare(0, 98, 2, 50, 0), ValueConnector.LARGE);
        Check.due("all from the greatest", x.prepare(1, 97, BILLION, 50, 0), ValueConnector.GREAT);
        Check.due("1 to the least", x.prepare(1, 97, 1, 50, 0), 1);
        Check.due("and no more to it", x.prepare(1, 97, 2, 50, 0), ValueConnector.GREAT);
        Check.due("more than the greatest", x.prepare(1, 97, BILLION + 1, 50, 0), ValueConnector.LARGE);
        for (int limit : new int[] {0, -1, BILLION + 1, LEAST, MOST}) {
            dueRefused(0, limit, 1);
        }
    }

    private static void worthsOfAccounts() {
        Check.sentence("or worth not 1 .. 10000");
        ValueConnector x = new ValueConnector(1, 100);
        Check.due("the least worth", x.account(0, 1, 1), 0);
        Check.due("the greatest worth", x.account(0, 1, 10000), 1);
        x.credit(0, 1, 3);
        Check.due("three of the least", x.position(), 3);
        x.credit(1, 1, 2);
        Check.due("and two of the greatest", x.position(), 20003);
        for (int worth : new int[] {0, -1, 10001, LEAST, MOST}) {
            dueRefused(0, 1, worth);
        }
    }

    private static void worthOfNoAccount() {
        Check.sentence("false when there is no such account");
        for (int a : Past.NO_ACCOUNTS) {
            Refusal.isFalse("worth(" + a + ", 5)", x -> x.worth(a, 5));
        }
        ValueConnector x = Past.busy();
        Check.due("of the last account", x.worth(Past.ACCOUNTS - 1, 5), true);
        Check.due("of the first account", x.worth(0, 5), true);
    }

    private static void worths() {
        Check.sentence("or w is not 1 .. 10000");
        ValueConnector x = new ValueConnector(1, 1);
        x.account(0, 1000, 7);
        x.credit(0, 1, 10);
        Check.due("position with worth 7", x.position(), 70);
        Check.due("worth(0, 1)", x.worth(0, 1), true);
        Check.due("position with worth 1", x.position(), 10);
        Check.due("worth(0, 10000)", x.worth(0, 10000), true);
        Check.due("position with worth 10000", x.position(), 100000);
        for (int w : new int[] {0, -1, 10001, LEAST, MOST}) {
            Refusal.isFalse("worth(0, " + w + ")", y -> y.worth(0, w));
        }
    }

    private static void worthOfNowAtPrepare() {
        Check.sentence("rounded down, with the worths of now");
        ValueConnector x = pair(1, 100000);
        x.prepare(0, 97, 100, 50, 90);
        x.worth(0, 3);
        x.prepare(0, 97, 100, 50, 90);
        x.worth(1, 2);
        x.prepare(0, 97, 101, 50, 90);
        Check.due("100 at 1 to 1", x.transfer(0, 1), 100);
        Check.due("100 at 3 to 1", x.transfer(1, 1), 300);
        Check.due("101 at 3 to 2", x.transfer(2, 1), 151);
        x.worth(0, 1);
        x.worth(1, 10000);
        x.fulfil(1, 7);
        Check.due("what was agreed is paid", x.balance(1), 300);
    }

    private static void dueSpread(int spread, int amount, long outgoing) {
        ValueConnector x = pair(1, 100000);
        Check.due("spread(" + spread + ")", x.spread(spread), true);
        x.prepare(0, 97, amount, 50, 0);
        Check.due(amount + " with spread " + spread, x.transfer(0, 1), outgoing);
        Check.due("the payer pays it whole", x.balance(0), -amount);
    }

    private static void spreads() {
        Check.sentence("SPREAD becomes s; false when s is not 0 .. 999");
        dueSpread(0, 1000, 1000);
        dueSpread(1, 1000, 999);
        dueSpread(500, 1000, 500);
        dueSpread(998, 1000, 2);
        dueSpread(999, 1000, 1);
        for (int s : new int[] {-1, 1000, LEAST, MOST}) {
            Refusal.isFalse("spread(" + s + ")", x -> x.spread(s));
        }
        ValueConnector x = pair(1, 100000);
        x.spread(250);
        x.prepare(0, 97, 1000, 50, 0);
        Check.due("spread(0)", x.spread(0), true);
        x.prepare(0, 97, 1000, 50, 0);
        Check.due("no spread again", x.transfer(1, 1), 1000);
        Check.due("an older transfer keeps its amount", x.transfer(0, 1), 750);
    }

    private static void balances() {
        Check.sentence("The balance of an account");
        ValueConnector x = pair(1, 100000);
        x.prepare(0, 97, 30, 50, 90);
        Check.due("held back", x.balance(0), -30);
        Check.due("not yet paid", x.balance(1), 0);
        x.fulfil(0, 7);
        Check.due("still paid", x.balance(0), -30);
        Check.due("paid", x.balance(1), 30);
        x.policy(1, 1000, 0, 3);
        for (int i = 0; i < 10; i++) {
            x.credit(1, i, 1000000);
        }
        Check.due("beyond an int", x.balance(1), 10000000030L);
    }

    private static void balanceOfNoAccount() {
        Check.sentence("0 when there is none");
        for (int a : Past.NO_ACCOUNTS) {
            Refusal.is(0, "balance(" + a + ")", x -> x.balance(a));
        }
        Check.due("of the first account", Past.busy().balance(0), -152);
        Check.due("of the last but one", Past.busy().balance(2), 6);
    }

    private static void positions() {
        Check.sentence("The sum of the balances");
        ValueConnector x = new ValueConnector(1, 1);
        for (int i = 0; i < 8; i++) {
            x.account(-100, 100, i + 1);
            x.credit(i, 0, 1 << i);
        }
        Check.due("position of eight", x.position(), 1 + 4 + 12 + 32 + 80 + 192 + 448 + 1024);
        x.learn(1, 0, 1);
        x.prepare(0, 97, 51, 50, 0);
        Check.due("a balance below 0", x.balance(0), -50);
        Check.due("counts too", x.position(), 1793 - 51);
        ValueConnector y = new ValueConnector(1, 1);
        y.account(0, 1, 10000);
        y.policy(0, 1, 0, 3);
        for (int i = 0; i < 10; i++) {
            y.credit(0, i, 1000000);
        }
        Check.due("a great position", y.position(), 100000000000000L);
    }

    private static void positionWithWorthsOfNow() {
        Check.sentence("each times its account's worth of now");
        ValueConnector x = new ValueConnector(1, 1);
        x.account(0, 1, 2);
        x.account(0, 1, 5);
        x.credit(0, 1, 10);
        x.credit(1, 1, 100);
        Check.due("before", x.position(), 520);
        x.worth(1, 3);
        Check.due("after", x.position(), 320);
    }
}

/** Promises 1 to 4, 16 and 17: a new object, account, worth, spread, balance, position. */
public final class AccountsTest {
    private static final int LEAST = Integer.MIN_VALUE;
    private static final int MOST = Integer.MAX_VALUE;

    public static void main(String[] args) {
        newObject();
        margins();
        holds();
        accountNumbers();
        accountEdges();
        refusedAccountsTakeNoNumber();
        worths();
        worthOfNowAtPrepare();
        spreads();
        spreadRoundsDown();
        balances();
        positions();
        Check.finish();
    }

    private static void newObject() {
        ValueConnector x = new ValueConnector(5, 100);
        Check.due("new: balance(0)", x.balance(0), 0);
        Check.due("new: position()", x.position(), 0);
        Check.due("new: state(0)", x.state(0), -1);
        Check.due("new: transfer(0, 0)", x.transfer(0, 0), -1);
        Check.due("new: settlement(0)", x.settlement(0), -1);
        Check.due("new: drops(0)", x.drops(0), -1);
        Check.due("new: way(a)", x.way(97), -1);
        Check.due("new: worth(0, 1)", x.worth(0, 1), false);
        Check.due("new: forget(0, 0)", x.forget(0, 0), false);
        Check.due("new: prepare", x.prepare(0, 97, 1, 10, 0), ValueConnector.NO_ACCOUNT);
        Check.due("new: advance(0)", x.advance(0), 0);
    }

    /** Two accounts with much room, and a way to account 1 for every address. */
    private static ValueConnector pair(int margin, int hold) {
        ValueConnector x = new ValueConnector(margin, hold);
        x.account(-1000000, 1000000, 1);
        x.account(-1000000, 1000000, 1);
        x.learn(1, 0, 1);
        return x;
    }

    private static void dueMargin(int given, int margin) {
        ValueConnector x = pair(given, 100000);
        String name = "margin " + given + ": ";
        Check.due(name + "too brief", x.prepare(0, 97, 1, margin, 0), ValueConnector.BRIEF);
        Check.due(name + "just long enough", x.prepare(0, 97, 1, margin + 1, 0), 0);
        Check.due(name + "transfer(0, 2)", x.transfer(0, 2), 1);
        Check.due(name + "prepare", x.prepare(0, 97, 1, 50000, 0), 1);
        Check.due(name + "transfer(1, 2)", x.transfer(1, 2), 50000 - margin);
    }

    private static void margins() {
        dueMargin(1, 1);
        dueMargin(2, 2);
        dueMargin(999, 999);
        dueMargin(1000, 1000);
        dueMargin(0, 10);
        dueMargin(-1, 10);
        dueMargin(1001, 10);
        dueMargin(LEAST, 10);
        dueMargin(MOST, 10);
    }

    private static void dueHold(int given, int hold) {
        ValueConnector x = pair(1, given);
        String name = "hold " + given + ": ";
        Check.due(name + "prepare", x.prepare(0, 97, 1, MOST, 0), 0);
        Check.due(name + "transfer(0, 2)", x.transfer(0, 2), hold);
        x.advance(7);
        Check.due(name + "prepare later", x.prepare(0, 97, 1, MOST, 0), 1);
        Check.due(name + "transfer(1, 2)", x.transfer(1, 2), hold + 7);
    }

    private static void holds() {
        dueHold(1, 1);
        dueHold(2, 2);
        dueHold(99999, 99999);
        dueHold(100000, 100000);
        dueHold(0, 1000);
        dueHold(-1, 1000);
        dueHold(100001, 1000);
        dueHold(LEAST, 1000);
        dueHold(MOST, 1000);
    }

    private static void accountNumbers() {
        ValueConnector x = new ValueConnector(1, 1);
        for (int i = 0; i < 8; i++) {
            Check.due("account " + i + " before", x.drops(i), -1);
            Check.due("account " + i, x.account(0, 1, 1), i);
            Check.due("account " + i + " after", x.drops(i), 100000);
        }
        Check.due("the ninth account", x.account(0, 1, 1), -1);
        Check.due("the ninth account again", x.account(0, 1, 1), -1);
        Check.due("drops(8)", x.drops(8), -1);
    }

    private static void dueAccount(int minimum, int limit, int worth, int want) {
        ValueConnector x = new ValueConnector(1, 1);
        Check.due("account(" + minimum + ", " + limit + ", " + worth + ")", x.account(minimum, limit, worth), want);
    }

    private static void accountEdges() {
        dueAccount(0, 1, 1, 0);
        dueAccount(-1000000000, 1000000000, 10000, 0);
        dueAccount(-1000000001, 1, 1, -1);
        dueAccount(1, 1, 1, -1);
        dueAccount(LEAST, 1, 1, -1);
        dueAccount(MOST, 1, 1, -1);
        dueAccount(0, 0, 1, -1);
        dueAccount(0, -1, 1, -1);
        dueAccount(0, 1000000001, 1, -1);
        dueAccount(0, LEAST, 1, -1);
        dueAccount(0, MOST, 1, -1);
        dueAccount(0, 1, 0, -1);
        dueAccount(0, 1, -1, -1);
        dueAccount(0, 1, 10001, -1);
        dueAccount(0, 1, LEAST, -1);
        dueAccount(0, 1, MOST, -1);
    }

    private static void refusedAccountsTakeNoNumber() {
        ValueConnector x = new ValueConnector(1, 1);
        Check.due("a refused account", x.account(1, 1, 1), -1);
        Check.due("none is there", x.drops(0), -1);
        Check.due("the next account", x.account(0, 1, 1), 0);
    }

    private static void worths() {
        ValueConnector x = new ValueConnector(1, 1);
        x.account(0, 1000, 7);
        x.credit(0, 1, 10);
        Check.due("position with worth 7", x.position(), 70);
        Check.due("worth(0, 1)", x.worth(0, 1), true);
        Check.due("position with worth 1", x.position(), 10);
        Check.due("worth(0, 10000)", x.worth(0, 10000), true);
        Check.due("position with worth 10000", x.position(), 100000);
        Check.due("worth(0, 0)", x.worth(0, 0), false);
        Check.due("worth(0, 10001)", x.worth(0, 10001), false);
        Check.due("worth(0, -1)", x.worth(0, -1), false);
        Check.due("worth(0, least)", x.worth(0, LEAST), false);
        Check.due("worth(0, most)", x.worth(0, MOST), false);
        Check.due("worth(1, 5)", x.worth(1, 5), false);
        Check.due("worth(-1, 5)", x.worth(-1, 5), false);
        Check.due("worth(8, 5)", x.worth(8, 5), false);
        Check.due("worth(least, 5)", x.worth(LEAST, 5), false);
        Check.due("worth(most, 5)", x.worth(MOST, 5), false);
        Check.due("position after refused worths", x.position(), 100000);
    }

    private static void worthOfNowAtPrepare() {
        ValueConnector x = pair(1, 100000);
        x.prepare(0, 97, 100, 50, 90);
        x.worth(0, 3);
        x.prepare(0, 97, 100, 50, 90);
        x.worth(1, 2);
        x.prepare(0, 97, 101, 50, 90);
        Check.due("100 at 1 to 1", x.transfer(0, 1), 100);
        Check.due("100 at 3 to 1", x.transfer(1, 1), 300);
        Check.due("101 at 3 to 2", x.transfer(2, 1), 151);
        x.worth(0, 1);
        x.worth(1, 10000);
        x.fulfil(1, 7);
        Check.due("what was agreed is paid", x.balance(1), 300);
    }

    private static void dueSpread(int spread, int amount, long outgoing) {
        ValueConnector x = pair(1, 100000);
        Check.due("spread(" + spread + ")", x.spread(spread), true);
        x.prepare(0, 97, amount, 50, 0);
        Check.due(amount + " with spread " + spread, x.transfer(0, 1), outgoing);
        Check.due("the payer pays it whole", x.balance(0), -amount);
    }

    private static void spreads() {
        dueSpread(0, 1000, 1000);
        dueSpread(1, 1000, 999);
        dueSpread(500, 1000, 500);
        dueSpread(999, 1000, 1);
        ValueConnector x = pair(1, 100000);
        x.spread(250);
        Check.due("spread(-1)", x.spread(-1), false);
        Check.due("spread(1000)", x.spread(1000), false);
        Check.due("spread(least)", x.spread(LEAST), false);
        Check.due("spread(most)", x.spread(MOST), false);
        x.prepare(0, 97, 1000, 50, 0);
        Check.due("spread after refused ones", x.transfer(0, 1), 750);
        Check.due("spread(0)", x.spread(0), true);
        x.prepare(0, 97, 1000, 50, 0);
        Check.due("no spread again", x.transfer(1, 1), 1000);
        Check.due("an older transfer keeps its amount", x.transfer(0, 1), 750);
    }

    private static void spreadRoundsDown() {
        dueSpread(1, 1, 0);
        dueSpread(1, 1001, 999);
        dueSpread(1, 1002, 1000);
        dueSpread(999, 999, 0);
        dueSpread(999, 1999, 1);
        ValueConnector x = pair(1, 100000);
        x.worth(0, 7);
        x.worth(1, 3);
        x.spread(333);
        x.prepare(0, 97, 500, 50, 0);
        // 500 * 7 * 667 / 3000 is 778.1..; rounding in between would give 777
        Check.due("rounded once, at the end", x.transfer(0, 1), 778);
    }

    private static void balances() {
        ValueConnector x = pair(1, 100000);
        Check.due("balance(-1)", x.balance(-1), 0);
        Check.due("balance(2)", x.balance(2), 0);
        Check.due("balance(8)", x.balance(8), 0);
        Check.due("balance(least)", x.balance(LEAST), 0);
        Check.due("balance(most)", x.balance(MOST), 0);
        x.prepare(0, 97, 30, 50, 90);
        Check.due("held back", x.balance(0), -30);
        Check.due("not yet paid", x.balance(1), 0);
        x.fulfil(0, 7);
        Check.due("still paid", x.balance(0), -30);
        Check.due("paid", x.balance(1), 30);
        x.policy(1, 1000, 0, 3);
        for (int i = 0; i < 10; i++) {
            x.credit(1, i, 1000000);
        }
        Check.due("beyond an int", x.balance(1), 10000000030L);
    }

    private static void positions() {
        ValueConnector x = new ValueConnector(1, 1);
        for (int i = 0; i < 8; i++) {
            x.account(-100, 100, i + 1);
            x.credit(i, 0, 1 << i);
        }
        Check.due("position of eight", x.position(), 1 + 4 + 12 + 32 + 80 + 192 + 448 + 1024);
        x.learn(1, 0, 1);
        x.prepare(0, 97, 51, 50, 0);
        Check.due("a balance below 0 counts too", x.balance(0), -50);
        Check.due("position with it", x.position(), 1793 - 51);
        ValueConnector y = new ValueConnector(1, 1);
        y.account(0, 1, 10000);
        y.policy(0, 1, 0, 3);
        for (int i = 0; i < 10; i++) {
            y.credit(0, i, 1000000);
        }
        Check.due("a great position", y.position(), 100000000000000L);
    }
}

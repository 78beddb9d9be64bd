import java.util.Random;

/** All promises: long runs of calls, the same ones every time, whose answers are those of Model. */
public final class RandomRunsTest {
    private static final int RUNS = 1500;
    /** An object serves 512 calls; what is left is for the questions at the end. */
    private static final int CALLS = 490;
    private static final String[] TEXTS = {
        "", "a", "b", "ab", "aa", "ba", "abc", "abd", "abca", "abcab", "abcabc", "abcabd", "z", "zzzzzz"
    };
    private static final long[] NO_TEXTS = {
        1, 96, 123, -1, Long.MIN_VALUE, 97L << 8, 97L << 48 | 97, Check.text("abcabca"), 97L << 56
    };
    private static final int[] WRONG_NUMBERS = {-1, 8, 120, Integer.MIN_VALUE, Integer.MAX_VALUE};

    private final Random random;
    private final String name;
    private final ValueConnector x;
    private final Model m;
    private final int mostAmount;
    private final int mostTicks;
    private int clock = 0;
    private int calls = 0;
    private boolean isWrong = false;

    private RandomRunsTest(int run) {
        random = new Random(run);
        name = "run " + run + ": ";
        int margin = random.nextInt(8) == 0 ? near(1000) : 1 + random.nextInt(20);
        int hold = random.nextInt(8) == 0 ? near(100000) : 1 + random.nextInt(200);
        x = new ValueConnector(margin, hold);
        m = new Model(margin, hold);
        mostAmount = new int[] {20, 1000, 100000, 1000000000}[random.nextInt(4)];
        mostTicks = random.nextInt(20) == 0 ? 20000 : 20;
    }

    public static void main(String[] args) {
        Check.sentence("as Model answers");
        boolean isWrong = false;
        for (int run = 0; run < RUNS && !isWrong; run++) {
            RandomRunsTest test = new RandomRunsTest(run);
            test.start();
            while (test.calls < CALLS && !test.isWrong) {
                test.call();
            }
            test.end();
            isWrong = test.isWrong;
        }
        Check.finish();
    }

    /** A number at one of the two edges 0 and most, or just beyond. */
    private int near(int most) {
        int[] edges = {0, 1, most, most + 1, -1};
        return edges[random.nextInt(edges.length)];
    }

    /** Mostly a number of the range, sometimes one at its edges or beyond them. */
    private int within(int least, int most) {
        switch (random.nextInt(24)) {
            case 0:
                return least;
            case 1:
                return most;
            case 2:
                return least - 1;
            case 3:
                return most + 1;
            default:
                return (int) (least + Math.floorMod(random.nextLong(), (long) most - least + 1));
        }
    }

    private int someAccount() {
        return random.nextInt(30) == 0 ? WRONG_NUMBERS[random.nextInt(WRONG_NUMBERS.length)] : random.nextInt(4);
    }

    private int someTransfer() {
        if (random.nextInt(30) == 0) {
            return WRONG_NUMBERS[random.nextInt(WRONG_NUMBERS.length)];
        }
        int count = m.transferCount();
        return random.nextBoolean() ? count - 1 - random.nextInt(3) : random.nextInt(count + 1);
    }

    private long someText() {
        if (random.nextInt(30) == 0) {
            return NO_TEXTS[random.nextInt(NO_TEXTS.length)];
        }
        return Check.text(TEXTS[random.nextInt(TEXTS.length)]);
    }

    private long someKey() {
        return random.nextInt(20) == 0 ? random.nextLong() : random.nextInt(5) - 2;
    }

    private void due(String call, long got, long want) {
        calls++;
        isWrong |= got != want;
        Check.due(name + "call " + calls + ", " + call, got, want);
    }

    private void due(String call, boolean got, boolean want) {
        due(call, got ? 1 : 0, want ? 1 : 0);
    }

    private void start() {
        for (int i = 0; i < 3; i++) {
            makeAccount();
            learn();
            learn();
        }
    }

    private void call() {
        int kind = random.nextInt(100);
        if (kind < 40) {
            prepare();
        } else if (kind < 60) {
            endTransfer();
        } else if (kind < 68) {
            advance();
        } else if (kind < 76) {
            learnOrForget();
        } else if (kind < 84) {
            changeAccount();
        } else {
            ask();
        }
    }

    private void makeAccount() {
        int minimum = random.nextInt(4) == 0 ? within(-1000000000, 0) : -random.nextInt(mostAmount);
        int limit = random.nextInt(4) == 0 ? within(1, 1000000000) : 1 + random.nextInt(mostAmount);
        int worth = random.nextInt(4) == 0 ? within(1, 10000) : 1 + random.nextInt(4);
        String call = "account(" + minimum + ", " + limit + ", " + worth + ")";
        due(call, x.account(minimum, limit, worth), m.account(minimum, limit, worth));
    }

    private void prepare() {
        int a = someAccount();
        long address = someText();
        int amount = random.nextInt(random.nextBoolean() ? mostAmount : 1 + mostAmount / 20) - random.nextInt(50) / 49;
        int expiry = random.nextInt(10) == 0 ? Integer.MAX_VALUE : clock + random.nextInt(60);
        long key = someKey();
        String call = "prepare(" + a + ", " + address + ", " + amount + ", " + expiry + ", lock of " + key + ")";
        long condition = m.lock(key);
        due("lock(" + key + ")", x.lock(key), condition);
        due(call, x.prepare(a, address, amount, expiry, condition), m.prepare(a, address, amount, expiry, condition));
    }

    private void endTransfer() {
        int n = someTransfer();
        if (random.nextInt(4) == 0) {
            due("reject(" + n + ")", x.reject(n), m.reject(n));
        } else {
            long key = someKey();
            due("fulfil(" + n + ", " + key + ")", x.fulfil(n, key), m.fulfil(n, key));
        }
    }

    private void advance() {
        int n = random.nextInt(mostTicks);
        if (random.nextInt(30) == 0) {
            n = random.nextBoolean() ? -1 : 100001;
        }
        due("advance(" + n + ")", x.advance(n), m.advance(n));
        clock += n > 0 && n <= 100000 ? n : 0;
    }

    private void learn() {
        int a = someAccount();
        long prefix = someText();
        int hops = random.nextInt(4) == 0 ? within(1, 15) : 1 + random.nextInt(3);
        due("learn(" + a + ", " + prefix + ", " + hops + ")", x.learn(a, prefix, hops), m.learn(a, prefix, hops));
    }

    private void learnOrForget() {
        if (random.nextInt(4) != 0) {
            learn();
            return;
        }
        int a = someAccount();
        long prefix = someText();
        due("forget(" + a + ", " + prefix + ")", x.forget(a, prefix), m.forget(a, prefix));
    }

    private void changeAccount() {
        int a = someAccount();
        switch (random.nextInt(6)) {
            case 0:
                int w = random.nextBoolean() ? within(1, 10000) : 1 + random.nextInt(4);
                due("worth(" + a + ", " + w + ")", x.worth(a, w), m.worth(a, w));
                break;
            case 1:
                int s = within(0, random.nextBoolean() ? 50 : 999);
                due("spread(" + s + ")", x.spread(s), m.spread(s));
                break;
            case 2:
                changePolicy(a);
                break;
            case 3:
                int capacity = within(1, random.nextBoolean() ? 4 : 1000);
                int flow = within(0, random.nextBoolean() ? 30 : 1000);
                String call = "bucket(" + a + ", " + capacity + ", " + flow + ")";
                due(call, x.bucket(a, capacity, flow), m.bucket(a, capacity, flow));
                break;
            case 4:
                credit(a);
                break;
            default:
                makeAccount();
        }
    }

    private void changePolicy(int a) {
        int threshold = random.nextInt(4) == 0 ? within(1, 1000000000) : within(1, 1 + mostAmount / 2);
        int target = within(-mostAmount / 10, threshold == Integer.MAX_VALUE ? 0 : Math.max(1, threshold / 2));
        int digits = within(0, 3);
        String call = "policy(" + a + ", " + threshold + ", " + target + ", " + digits + ")";
        due(call, x.policy(a, threshold, target, digits), m.policy(a, threshold, target, digits));
    }

    private void credit(int a) {
        int key = random.nextInt(11);
        int units = random.nextInt(4) == 0 ? within(0, 1000000) : random.nextInt(1 + mostAmount / 100) % 1000000;
        due("credit(" + a + ", " + key + ", " + units + ")", x.credit(a, key, units), m.credit(a, key, units));
    }

    private void ask() {
        int a = someAccount();
        int n = someTransfer();
        switch (random.nextInt(8)) {
            case 0:
                due("balance(" + a + ")", x.balance(a), m.balance(a));
                break;
            case 1:
                due("position()", x.position(), m.position());
                break;
            case 2:
                due("state(" + n + ")", x.state(n), m.state(n));
                break;
            case 3:
                int what = within(0, 3);
                due("transfer(" + n + ", " + what + ")", x.transfer(n, what), m.transfer(n, what));
                break;
            case 4:
                int s = random.nextInt(2 + m.settlementCount()) - random.nextInt(2);
                due("settlement(" + s + ")", x.settlement(s), m.settlement(s));
                break;
            case 5:
                due("drops(" + a + ")", x.drops(a), m.drops(a));
                break;
            case 6:
                long address = someText();
                due("way(" + address + ")", x.way(address), m.way(address));
                break;
            default:
                credit(a);
        }
    }

    private void end() {
        for (int a = 0; a < 5; a++) {
            due("at the end balance(" + a + ")", x.balance(a), m.balance(a));
            due("at the end drops(" + a + ")", x.drops(a), m.drops(a));
        }
        due("at the end position()", x.position(), m.position());
        int last = m.settlementCount() - 1;
        due("at the end settlement(" + last + ")", x.settlement(last), m.settlement(last));
        due("at the end settlement(" + (last + 1) + ")", x.settlement(last + 1), -1);
    }
}

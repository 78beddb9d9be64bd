/** Promises 6 and 21: bucket, drops; and the test PACED of a prepare. */
public final class BucketsTest {
    private static final int LEAST = Integer.MIN_VALUE;
    private static final int MOST = Integer.MAX_VALUE;

    public static void main(String[] args) {
        firstBucket();
        dropsWhenFull();
        everyTick();
        neverMoreThanFull();
        newBucketIsFull();
        bucketOfNoAccount();
        capacities();
        flows();
        paced();
        taken();
        takenWhateverComes();
        notTakenBeforeTheTest();
        dropsOfNoAccount();
        Check.finish();
    }

    private static ValueConnector pair() {
        ValueConnector x = new ValueConnector(5, 100);
        x.account(-1000, 1000, 1);
        x.account(-1000, 1000, 1);
        x.learn(1, 0, 1);
        return x;
    }

    private static void take(ValueConnector x, int times) {
        for (int i = 0; i < times; i++) {
            x.prepare(0, 97, 0, MOST, 0);
        }
    }

    private static void firstBucket() {
        Check.sentence("at first capacity 1000 and flow 100, and it is full");
        ValueConnector x = pair();
        Check.due("full", x.drops(0), 100000);
        x.advance(1);
        Check.due("of capacity 1000", x.drops(0), 100000);
        take(x, 3);
        x.advance(1);
        Check.due("with flow 100", x.drops(0), 99800);
    }

    private static void dropsWhenFull() {
        Check.sentence("100 times its capacity when it is full");
        ValueConnector x = pair();
        for (int capacity : new int[] {1, 2, 7, 999, 1000}) {
            Check.due("bucket(0, " + capacity + ", 0)", x.bucket(0, capacity, 0), true);
            Check.due("drops of capacity " + capacity, x.drops(0), 100 * capacity);
        }
    }

    private static void everyTick() {
        Check.sentence("at every tick as many drops as its flow come in");
        ValueConnector x = pair();
        x.account(-1000, 1000, 1);
        x.bucket(0, 10, 7);
        x.bucket(2, 10, 0);
        take(x, 5);
        x.prepare(2, 97, 0, MOST, 0);
        x.advance(0);
        Check.due("no tick", x.drops(0), 500);
        x.advance(1);
        Check.due("one tick", x.drops(0), 507);
        x.advance(13);
        Check.due("thirteen ticks", x.drops(0), 598);
        Check.due("no flow", x.drops(2), 900);
        Check.due("a full one", x.drops(1), 100000);
    }

    private static void neverMoreThanFull() {
        Check.sentence("but never more than when it is full");
        ValueConnector x = pair();
        x.bucket(0, 3, 50);
        take(x, 1);
        x.advance(1);
        Check.due("less than full", x.drops(0), 250);
        x.advance(1);
        Check.due("just full", x.drops(0), 300);
        x.advance(1);
        Check.due("a tick more", x.drops(0), 300);
        x.bucket(0, 3, 33);
        take(x, 1);
        x.advance(4);
        Check.due("over it by a part of a flow", x.drops(0), 300);
        x.bucket(0, 1000, 1000);
        take(x, 3);
        x.advance(100000);
        Check.due("the greatest flow, the most ticks", x.drops(0), 100000);
    }

    private static void newBucketIsFull() {
        Check.sentence("Gives an account a bucket that is full now");
        ValueConnector x = pair();
        x.bucket(0, 2, 0);
        take(x, 1);
        Check.due("the same again", x.bucket(0, 2, 0), true);
        Check.due("it is full", x.drops(0), 200);
        take(x, 2);
        Check.due("a greater one for an empty one", x.bucket(0, 1000, 0), true);
        Check.due("it is full too", x.drops(0), 100000);
        Check.due("a lesser one", x.bucket(0, 1, 1000), true);
        Check.due("it is no more than full", x.drops(0), 100);
        x.advance(1);
        Check.due("and stays so", x.drops(0), 100);
        Check.due("the other keeps its own", x.drops(1), 100000);
    }

    private static void bucketOfNoAccount() {
        Check.sentence("False when there is no such account");
        for (int a : Past.NO_ACCOUNTS) {
            Refusal.isFalse("bucket(" + a + ", 1, 1)", x -> x.bucket(a, 1, 1));
        }
        Check.due("of the first account", Past.busy().bucket(0, 1, 1), true);
        Check.due("of the last account", Past.busy().bucket(Past.ACCOUNTS - 1, 1, 1), true);
    }

    private static void capacities() {
        Check.sentence("capacity is not 1 .. 1000");
        for (int capacity : new int[] {0, -1, 1001, LEAST, MOST}) {
            Refusal.isFalse("bucket(0, " + capacity + ", 1)", x -> x.bucket(0, capacity, 1));
        }
        ValueConnector x = pair();
        Check.due("bucket(0, 1, 1)", x.bucket(0, 1, 1), true);
        Check.due("drops of the least", x.drops(0), 100);
        Check.due("bucket(0, 1000, 1)", x.bucket(0, 1000, 1), true);
        Check.due("drops of the greatest", x.drops(0), 100000);
    }

    private static void flows() {
        Check.sentence("or flow is not 0 .. 1000");
        for (int flow : new int[] {-1, 1001, LEAST, MOST}) {
            Refusal.isFalse("bucket(0, 1, " + flow + ")", x -> x.bucket(0, 1, flow));
        }
        ValueConnector x = pair();
        Check.due("bucket(0, 50, 0)", x.bucket(0, 50, 0), true);
        take(x, 20);
        x.advance(100000);
        Check.due("the least flow", x.drops(0), 3000);
        Check.due("bucket(0, 50, 1000)", x.bucket(0, 50, 1000), true);
        take(x, 20);
        x.advance(1);
        Check.due("the greatest flow", x.drops(0), 4000);
    }

    private static void paced() {
        Check.sentence("PACED: a's bucket has less than 100 drops");
        ValueConnector x = pair();
        x.bucket(0, 1, 33);
        Check.due("100 drops", x.prepare(0, 97, 0, 50, 0), 0);
        Check.due("no drops", x.prepare(0, 97, 0, 50, 0), ValueConnector.PACED);
        x.advance(3);
        Check.due("99 drops", x.prepare(0, 97, 0, 50, 0), ValueConnector.PACED);
        Check.due("none of them is taken", x.drops(0), 99);
        x.advance(1);
        Check.due("100 again", x.prepare(0, 97, 0, 50, 0), 1);
        x.learn(0, 98, 1);
        Check.due("the other has its own bucket", x.prepare(1, 98, 0, 50, 0), 2);
        Refusal.is(ValueConnector.PACED, "prepare with 99 drops", BucketsTest::dry,
                y -> y.prepare(0, Past.B, 1, Past.SOON + 3, 0));
    }

    /** Account 0 has 99 drops. */
    private static ValueConnector dry() {
        ValueConnector x = Past.busy();
        x.bucket(0, 1, 33);
        x.prepare(0, Past.OWN, 0, MOST, 0);
        x.advance(3);
        return x;
    }

    private static void taken() {
        Check.sentence("If it has so many, 100 are taken out of it");
        ValueConnector x = pair();
        for (int i = 1; i <= 5; i++) {
            Check.due("prepare " + i, x.prepare(0, 97, 1, 50, 0), i - 1);
            Check.due("drops(0) after " + i, x.drops(0), 100000 - 100 * i);
        }
        Check.due("drops of the way", x.drops(1), 100000);
    }

    private static void takenWhateverComes() {
        Check.sentence("and that stays so whatever comes of the later tests");
        Refusal.takesDrops(ValueConnector.UNREACHABLE, "to itself", x -> x.prepare(0, Past.OWN, 1, Past.SOON, 0));
        Refusal.takesDrops(ValueConnector.BRIEF, "brief", x -> x.prepare(0, Past.B, 1, Past.SOON - 1, 0));
        Refusal.takesDrops(ValueConnector.POOR, "poor", x -> x.prepare(0, Past.B, 549, Past.SOON, 0));
        Refusal.takesDrops(ValueConnector.GREAT, "great", x -> x.prepare(0, Past.C, 5, Past.SOON, 0));
    }

    private static void notTakenBeforeTheTest() {
        Check.sentence("but for the drops that PACED says");
        ValueConnector x = pair();
        x.prepare(0, 0, 1, 50, 0);
        x.prepare(0, 97, -1, 50, 0);
        x.prepare(0, 97, 1, 0, 0);
        x.prepare(0, 97, 1001, 50, 0);
        x.prepare(2, 97, 1, 50, 0);
        Check.due("nothing was taken", x.drops(0), 100000);
        for (int i = 0; i < 120; i++) {
            x.prepare(0, 97, 0, 50, 0);
        }
        Check.due("120 times taken", x.drops(0), 88000);
        Check.due("FULL", x.prepare(0, 97, 0, 50, 0), ValueConnector.FULL);
        Check.due("FULL takes none", x.drops(0), 88000);
    }

    private static void dropsOfNoAccount() {
        Check.sentence("The drops in an account's bucket; NONE when there is no such account");
        for (int a : Past.NO_ACCOUNTS) {
            Refusal.is(-1, "drops(" + a + ")", x -> x.drops(a));
        }
        Check.due("of the first account", Past.busy().drops(0), 200 * 100 - 5 * 100 + 20 * 7);
        Check.due("of the last account", Past.busy().drops(Past.ACCOUNTS - 1), 100000);
    }
}

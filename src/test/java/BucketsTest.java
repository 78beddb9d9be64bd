/** Promises 6 and 21: bucket, drops, and the test PACED. */
public final class BucketsTest {
    private static final int LEAST = Integer.MIN_VALUE;
    private static final int MOST = Integer.MAX_VALUE;

    public static void main(String[] args) {
        firstBucket();
        flowsIn();
        refused();
        newBucketIsFull();
        paced();
        takenWhateverComes();
        notTakenBeforeTheTest();
        Check.finish();
    }

    private static ValueConnector pair() {
        ValueConnector x = new ValueConnector(5, 100);
        x.account(-1000, 1000, 1);
        x.account(-1000, 1000, 1);
        x.learn(1, 0, 1);
        return x;
    }

    private static void firstBucket() {
        ValueConnector x = pair();
        Check.due("full at first", x.drops(0), 100000);
        int[] none = {-1, 2, 8, LEAST, MOST};
        for (int a : none) {
            Check.due("drops(" + a + ")", x.drops(a), -1);
        }
        for (int i = 1; i <= 5; i++) {
            x.prepare(0, 97, 0, 50, 0);
            Check.due("after prepare " + i, x.drops(0), 100000 - 100 * i);
        }
        Check.due("the other's is full", x.drops(1), 100000);
        x.advance(0);
        Check.due("no tick", x.drops(0), 99500);
        x.advance(1);
        Check.due("a tick", x.drops(0), 99600);
        x.advance(3);
        Check.due("three ticks", x.drops(0), 99900);
        x.advance(2);
        Check.due("never more than full", x.drops(0), 100000);
        x.advance(-1);
        x.advance(100001);
        Check.due("refused advances", x.drops(0), 100000);
    }

    private static void flowsIn() {
        ValueConnector x = pair();
        Check.due("bucket(0, 3, 7)", x.bucket(0, 3, 7), true);
        Check.due("bucket(1, 1, 0)", x.bucket(1, 1, 0), true);
        x.learn(0, 98, 1);
        x.prepare(0, 97, 0, 50, 0);
        x.prepare(1, 98, 0, 50, 0);
        x.advance(13);
        Check.due("flow 7", x.drops(0), 291);
        Check.due("no flow", x.drops(1), 0);
        x.advance(1);
        Check.due("flow 7 more", x.drops(0), 298);
        x.advance(1);
        Check.due("cut at full", x.drops(0), 300);
        x.advance(100000);
        Check.due("still full", x.drops(0), 300);
        Check.due("still none", x.drops(1), 0);
        x.bucket(1, 1000, 1000);
        x.prepare(1, 98, 0, 200000, 0);
        Check.due("great bucket", x.drops(1), 99900);
        x.advance(100000);
        Check.due("great flow", x.drops(1), 100000);
    }

    private static void dueRefused(ValueConnector x, int a, int capacity, int flow) {
        Check.due("bucket(" + a + ", " + capacity + ", " + flow + ")", x.bucket(a, capacity, flow), false);
    }

    private static void refused() {
        ValueConnector x = pair();
        x.bucket(0, 5, 30);
        x.prepare(0, 97, 0, 50, 0);
        int[] wrongAccounts = {-1, 2, 8, LEAST, MOST};
        for (int a : wrongAccounts) {
            dueRefused(x, a, 1, 1);
        }
        int[] wrongCapacities = {0, -1, 1001, LEAST, MOST};
        for (int capacity : wrongCapacities) {
            dueRefused(x, 0, capacity, 1);
        }
        int[] wrongFlows = {-1, 1001, LEAST, MOST};
        for (int flow : wrongFlows) {
            dueRefused(x, 0, 1, flow);
        }
        Check.due("drops are the same", x.drops(0), 400);
        x.advance(1);
        Check.due("flow is the same", x.drops(0), 430);
        x.advance(10);
        Check.due("capacity is the same", x.drops(0), 500);
    }

    private static void newBucketIsFull() {
        ValueConnector x = pair();
        x.bucket(0, 2, 0);
        x.prepare(0, 97, 0, 50, 0);
        Check.due("the same again", x.bucket(0, 2, 0), true);
        Check.due("it is full", x.drops(0), 200);
        Check.due("bucket(0, 1000, 0)", x.bucket(0, 1000, 0), true);
        Check.due("a greater one", x.drops(0), 100000);
        Check.due("bucket(0, 1, 1000)", x.bucket(0, 1, 1000), true);
        Check.due("a lesser one", x.drops(0), 100);
        x.advance(1);
        Check.due("it stays full", x.drops(0), 100);
    }

    private static void paced() {
        ValueConnector x = pair();
        x.bucket(0, 1, 33);
        Check.due("100 drops are enough", x.prepare(0, 97, 0, 50, 0), 0);
        Check.due("none is not", x.prepare(0, 97, 0, 50, 0), ValueConnector.PACED);
        x.advance(3);
        Check.due("99 drops are not", x.prepare(0, 97, 0, 50, 0), ValueConnector.PACED);
        Check.due("none of them is taken", x.drops(0), 99);
        Check.due("the other's bucket counts for it alone", x.drops(1), 100000);
        x.advance(1);
        Check.due("100 again", x.prepare(0, 97, 0, 50, 0), 1);
    }

    private static void takenWhateverComes() {
        ValueConnector x = pair();
        x.account(0, 10, 1);
        x.learn(0, 98, 1);
        x.learn(2, 99, 1);
        x.bucket(0, 10, 0);
        Check.due("UNREACHABLE", x.prepare(0, 98, 1, 50, 0), ValueConnector.UNREACHABLE);
        Check.due("drops after UNREACHABLE", x.drops(0), 900);
        Check.due("BRIEF", x.prepare(0, 97, 1, 5, 0), ValueConnector.BRIEF);
        Check.due("drops after BRIEF", x.drops(0), 800);
        x.prepare(0, 97, 1, 50, 0);
        Check.due("POOR", x.prepare(0, 97, 1000, 50, 0), ValueConnector.POOR);
        Check.due("drops after POOR", x.drops(0), 600);
        Check.due("GREAT", x.prepare(0, 99, 11, 50, 0), ValueConnector.GREAT);
        Check.due("drops after GREAT", x.drops(0), 500);
        Check.due("drops of the others", x.drops(1) + x.drops(2), 200000);
    }

    private static void notTakenBeforeTheTest() {
        ValueConnector x = pair();
        x.prepare(0, 0, 1, 50, 0);
        x.prepare(0, 97, -1, 50, 0);
        x.prepare(0, 97, 1, 0, 0);
        x.prepare(0, 97, 1001, 50, 0);
        x.prepare(2, 97, 1, 50, 0);
        Check.due("nothing was taken", x.drops(0), 100000);
        for (int i = 0; i < 120; i++) {
            x.prepare(0, 97, 0, 50, 0);
        }
        Check.due("120 times taken", x.drops(0), 88000);
        Check.due("FULL", x.prepare(0, 97, 0, 50, 0), ValueConnector.FULL);
        Check.due("FULL takes none", x.drops(0), 88000);
    }
}

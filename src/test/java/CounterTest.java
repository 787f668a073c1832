/** Promises 7 and 18: count, total. */
public final class CounterTest {
    private static final int LOW = Integer.MIN_VALUE;
    private static final int HIGH = Integer.MAX_VALUE;

    private CounterTest() {
    }

    public static void main(String[] args) {
        upAndDown();
        everyCounterIsItsOwn();
        lowestBits();
        greaterOfBoth();
        greaterBeyondAnInt();
        bothWaysBetweenMessages();
        wrongInputs();
        Check.end();
    }

    private static void some(DotGossip x) {
        x.open(3);
        x.count(0, 1, 5);
        x.count(0, 1, -2);
        x.count(2, 1, -9);
        x.gossip(2, 1);
        x.gossip(0, 1);
    }

    private static void upAndDown() {
        DotGossip x = new DotGossip();
        Check.due("count 5", x.count(0, 0, 5), 5);
        Check.due("count -7", x.count(0, 0, -7), -2);
        Check.due("count 0", x.count(0, 0, 0), -2);
        Check.due("total", x.total(0, 0), -2);
        Check.due("total elsewhere", x.total(1, 0), 0);
        Check.due("no dot was made", x.vector(0, 0), 0);
        x.count(1, 0, 10);
        x.gossip(0, 1);
        Check.due("no dots came", x.deliver(0), 0);
        Check.due("both replicas' counts", x.total(1, 0), 8);
        Check.due("count on both", x.count(1, 0, 1), 9);
    }

    private static void everyCounterIsItsOwn() {
        for (int c = 0; c < 4; c++) {
            DotGossip x = new DotGossip();
            x.count(1, c, 3);
            for (int k = 0; k < 4; k++) {
                Check.due("total", x.total(1, k), k == c ? 3 : 0);
                Check.due("total elsewhere", x.total(0, k), 0);
            }
        }
    }

    private static void lowestBits() {
        DotGossip x = new DotGossip();
        Check.due("high", x.count(0, 3, HIGH), HIGH);
        Check.due("high twice", x.count(0, 3, HIGH), -2);
        Check.due("two more", x.count(0, 3, 2), 0);
        Check.due("low", x.count(0, 3, LOW), LOW);
        Check.due("low twice", x.count(0, 3, LOW), 0);
        Check.due("one less", x.count(0, 3, -1), -1);
        Check.due("total", x.total(0, 3), -1);
    }

    private static void greaterOfBoth() {
        DotGossip x = new DotGossip();
        x.count(0, 2, 5);
        x.gossip(0, 1);
        x.count(0, 2, 5);
        x.count(0, 2, -1);
        x.gossip(0, 1);
        x.copy(1);
        x.deliver(1);
        Check.due("the later one", x.total(1, 2), 9);
        x.deliver(0);
        Check.due("the earlier one changes nothing", x.total(1, 2), 9);
        x.deliver(0);
        Check.due("nor does the doubled one", x.total(1, 2), 9);
        x.gossip(1, 0);
        x.count(0, 2, -3);
        x.deliver(0);
        Check.due("what is known of it comes back", x.total(0, 2), 6);
    }

    /** What was added and taken is compared whole, not by its lowest 32 bits. */
    private static void greaterBeyondAnInt() {
        for (int by : new int[] {HIGH, LOW}) {
            DotGossip x = new DotGossip();
            x.count(0, 0, by);
            x.gossip(0, 1);
            x.count(0, 0, by);
            x.gossip(0, 1);
            x.count(0, 0, by);
            int due = x.count(0, 0, by);
            x.gossip(0, 1);
            x.deliver(2);
            Check.due("four times", x.total(1, 0), due);
            x.deliver(1);
            x.deliver(0);
            Check.due("after earlier ones", x.total(1, 0), due);
            x.gossip(1, 0);
            x.deliver(0);
            Check.due("back at the first", x.total(0, 0), due);
        }
    }

    /** What was taken is not less for what is added since, nor the other way round. */
    private static void bothWaysBetweenMessages() {
        for (int[] by : new int[][] {{-5, 3}, {5, -3}, {-5, 5}, {5, -5}, {-5, 8}, {5, -8}, {5, -8, 4}, {-5, 8, -4}}) {
            for (int way = 0; way < 2; way++) {
                DotGossip x = new DotGossip();
                int due = 0;
                for (int much : by) {
                    due += much;
                    Check.due("count " + much, x.count(0, 2, much), due);
                    x.gossip(0, 1);
                }
                for (int k = by.length - 1; k >= 0; k--) {
                    x.deliver(way == 0 ? 0 : k);
                }
                Check.due("told in order " + way, x.total(1, 2), due);
                Check.due("all is known", x.same(0, 1), true);
                x.gossip(1, 0);
                x.deliver(0);
                Check.due("nothing comes back", x.total(0, 2), due);
            }
        }
    }

    private static void wrongInputs() {
        for (int r : new int[] {-1, 3, 6, HIGH, LOW}) {
            Check.illegal("count, replica " + r, CounterTest::some, x -> x.count(r, 1, 1));
            Check.illegal("total, replica " + r, CounterTest::some, x -> x.total(r, 1));
        }
        for (int c : new int[] {-1, 4, HIGH, LOW}) {
            Check.illegal("count, counter " + c, CounterTest::some, x -> x.count(0, c, 1));
            Check.illegal("count -1, counter " + c, CounterTest::some, x -> x.count(0, c, -1));
            Check.illegal("total, counter " + c, CounterTest::some, x -> x.total(0, c));
        }
    }
}

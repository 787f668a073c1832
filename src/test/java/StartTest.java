/** Promises 1 and 2: a new object, open. */
public final class StartTest {
    private StartTest() {
    }

    public static void main(String[] args) {
        newObject();
        objectsAreApart();
        openEachNumber();
        openForgetsAll();
        openRefuses();
        Check.end();
    }

    private static void newObject() {
        DotGossip x = new DotGossip();
        Check.due("new: replicas", x.message(0, DotGossip.NONE), 2);
        Check.due("new: messages", x.message(0, -2), 0);
        hasNothing("new", x, 2);
        Check.illegal("new: replica 2", y -> { }, y -> y.vector(2, 0));
        Check.alike("new is as open(2)", y -> { }, y -> y.open(2));
    }

    /** A new object has nothing of another one, takes nothing from it and adds nothing to it. */
    private static void objectsAreApart() {
        DotGossip x = new DotGossip();
        x.open(3);
        x.add(0, 0, 3);
        x.write(1, 1, 7);
        x.count(2, 2, 5);
        x.gossip(0, 1);
        DotGossip y = new DotGossip();
        Check.due("the new one's replicas", y.message(0, DotGossip.NONE), 2);
        Check.due("the new one's messages", y.message(0, -2), 0);
        hasNothing("the new one", y, 2);
        y.open(4);
        Check.due("the new one's first number", y.add(0, 0, 3), 1);
        y.clear(0, 0);
        y.write(1, 1, 8);
        y.count(2, 2, 6);
        y.gossip(3, 2);
        y.drop(0);
        Check.due("the first one's replicas", x.message(0, DotGossip.NONE), 3);
        Check.due("its messages", x.message(0, -2), 1);
        Check.due("its message's vector", x.message(0, 2), 1);
        Check.due("its element", x.dot(0, 0, 3, 0, 1), 1);
        Check.due("its value", x.value(1, 1, 0, 2), 7);
        Check.due("its counter", x.total(2, 2), 5);
        Check.due("its vector", x.vector(0, 0), 1);
        Check.due("its message comes", x.deliver(0), 1);
        Check.due("at its receiver", x.contains(1, 0, 3), true);
        Check.due("and nowhere else", y.contains(1, 0, 3), false);
    }

    private static void hasNothing(String when, DotGossip x, int replicas) {
        for (int r = 0; r < replicas; r++) {
            for (int k = 0; k < 4; k++) {
                Check.due(when + ": size", x.size(r, k), 0);
                Check.due(when + ": values", x.values(r, k), 0);
                Check.due(when + ": total", x.total(r, k), 0);
            }
            for (int of = 0; of < replicas; of++) {
                Check.due(when + ": vector", x.vector(r, of), 0);
                Check.due(when + ": same", x.same(r, of), true);
            }
        }
    }

    private static void openEachNumber() {
        for (int n = 2; n <= 6; n++) {
            int replicas = n;
            DotGossip x = new DotGossip();
            x.open(n);
            Check.due("open: replicas", x.message(0, DotGossip.NONE), n);
            hasNothing("open(" + n + ")", x, n);
            Check.due("open: the last replica adds", x.add(n - 1, 0, 0), 1);
            Check.illegal("open: replica n", y -> y.open(replicas), y -> y.add(replicas, 0, 0));
        }
    }

    private static void openForgetsAll() {
        Check.Run full = y -> {
            y.open(6);
            for (int r = 0; r < 6; r++) {
                y.add(r, r % 4, 15 - r);
                y.write(r, r % 4, r + 7);
                y.count(r, r % 4, 9);
                y.count(r, r % 4, -4);
                y.gossip(r, (r + 1) % 6);
            }
            for (int k = 0; k < 3; k++) {
                y.deliver(0);
            }
        };
        for (int n = 2; n <= 6; n++) {
            int replicas = n;
            Check.alike("open(" + n + ") forgets all", y -> {
                full.on(y);
                y.open(replicas);
            }, y -> y.open(replicas));
            // A replica that is shut and opened again has nothing, too.
            Check.alike("open(2), open(" + n + ") forget all", y -> {
                full.on(y);
                y.open(2);
                y.open(replicas);
            }, y -> y.open(replicas));
        }
        Check.unlike("the full object is no new one", full, y -> y.open(6));
    }

    private static void openRefuses() {
        Check.Run some = y -> {
            y.open(3);
            y.add(2, 1, 4);
            y.gossip(2, 0);
        };
        for (int n : new int[] {1, 0, -1, -2, 7, 8, Integer.MAX_VALUE, Integer.MIN_VALUE}) {
            Check.illegal("open(" + n + ")", some, y -> y.open(n));
        }
    }
}

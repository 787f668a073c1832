/** Promises 3 to 5 and 13 to 15: add, remove, clear, contains, size, dot. */
public final class SetTest {
    private static final int[] NO_REPLICA = {-1, 3, 5, 6, Integer.MAX_VALUE, Integer.MIN_VALUE};
    private static final int[] NO_SET = {-1, 4, Integer.MAX_VALUE, Integer.MIN_VALUE};
    private static final int[] NO_ELEMENT = {-1, 16, 17, 64, Integer.MAX_VALUE, Integer.MIN_VALUE};

    private SetTest() {
    }

    public static void main(String[] args) {
        addNumbersDots();
        addLeavesTheNewDotAlone();
        removeTellsDots();
        removeMakesNoDot();
        clearTellsElements();
        clearStaysInItsSet();
        everyElementIsItsOwn();
        dotsInOrder();
        dotWithoutSuch();
        wrongElements();
        wrongSets();
        wrongDots();
        Check.end();
    }

    /** Three replicas whose element (1, 5) has a dot of each at replica 0. */
    private static void three(DotGossip x) {
        x.open(3);
        x.add(2, 0, 0);
        x.add(2, 1, 5);
        x.add(1, 1, 5);
        x.add(0, 1, 5);
        x.gossip(2, 0);
        x.gossip(1, 0);
        x.deliver(0);
        x.deliver(0);
        x.gossip(0, 2);
    }

    private static void addNumbersDots() {
        DotGossip x = new DotGossip();
        Check.due("first add", x.add(0, 0, 0), 1);
        Check.due("another set goes on", x.add(0, 3, 15), 2);
        x.write(0, 2, 5);
        Check.due("a write took a number", x.add(0, 0, 1), 4);
        Check.due("the other replica has its own", x.add(1, 0, 0), 1);
        x.remove(0, 0, 0);
        Check.due("a removed dot's number is not used again", x.add(0, 0, 0), 5);
        x.gossip(1, 0);
        x.deliver(0);
        Check.due("dots of others do not count", x.add(0, 0, 0), 6);
        x.count(0, 0, 3);
        Check.due("counting makes no dot", x.add(0, 0, 0), 7);
    }

    private static void addLeavesTheNewDotAlone() {
        DotGossip x = new DotGossip();
        three(x);
        Check.due("add", x.add(0, 1, 5), 2);
        Check.due("its replica", x.dot(0, 1, 5, 0, 0), 0);
        Check.due("its number", x.dot(0, 1, 5, 0, 1), 2);
        Check.due("no other", x.dot(0, 1, 5, 1, 0), DotGossip.NONE);
        Check.due("elsewhere it stays", x.dot(2, 1, 5, 0, 1), 2);
        Check.due("one dot is removed", x.remove(0, 1, 5), 1);
    }

    private static void removeTellsDots() {
        DotGossip x = new DotGossip();
        three(x);
        Check.due("remove", x.remove(0, 1, 5), 3);
        Check.due("not in", x.contains(0, 1, 5), false);
        Check.due("no dot", x.dot(0, 1, 5, 0, 1), DotGossip.NONE);
        Check.due("again", x.remove(0, 1, 5), 0);
        Check.due("the other element stays", x.contains(0, 0, 0), true);
        Check.due("another replica keeps it", x.contains(1, 1, 5), true);
    }

    private static void removeMakesNoDot() {
        DotGossip x = new DotGossip();
        three(x);
        x.remove(2, 1, 5);
        Check.due("vector", x.vector(2, 2), 2);
        Check.due("next number", x.add(2, 1, 5), 3);
    }

    private static void clearTellsElements() {
        DotGossip x = new DotGossip();
        three(x);
        x.add(0, 1, 0);
        x.add(0, 1, 15);
        Check.due("clear counts elements, not dots", x.clear(0, 1), 3);
        Check.due("size", x.size(0, 1), 0);
        Check.due("the other set stays", x.size(0, 0), 1);
        Check.due("another replica stays", x.size(1, 1), 1);
        Check.due("again", x.clear(0, 1), 0);
        Check.due("vector stays", x.vector(0, 0), 3);
        for (int e = 0; e < 16; e++) {
            x.add(1, 3, e);
        }
        Check.due("size of a full set", x.size(1, 3), 16);
        Check.due("clear of a full set", x.clear(1, 3), 16);
    }

    private static void clearStaysInItsSet() {
        for (int s = 0; s < 4; s++) {
            DotGossip x = new DotGossip();
            for (int k = 0; k < 4; k++) {
                x.add(0, k, 0);
                x.add(0, k, 15);
                x.write(0, k, 1);
            }
            Check.due("clear", x.clear(0, s), 2);
            for (int k = 0; k < 4; k++) {
                Check.due("size", x.size(0, k), k == s ? 0 : 2);
                Check.due("values", x.values(0, k), 1);
            }
        }
    }

    private static void everyElementIsItsOwn() {
        for (int s = 0; s < 4; s++) {
            for (int e = 0; e < 16; e++) {
                DotGossip x = new DotGossip();
                x.add(1, s, e);
                for (int k = 0; k < 64; k++) {
                    boolean due = k == s * 16 + e;
                    Check.due("contains", x.contains(1, k / 16, k % 16), due);
                    Check.due("contains elsewhere", x.contains(0, k / 16, k % 16), false);
                }
                for (int k = 0; k < 4; k++) {
                    Check.due("size", x.size(1, k), k == s ? 1 : 0);
                    Check.due("no register", x.values(1, k), 0);
                }
            }
        }
    }

    private static void dotsInOrder() {
        DotGossip x = new DotGossip();
        x.open(6);
        for (int r = 5; r >= 0; r--) {
            for (int k = 0; k <= 6 - r; k++) {
                x.add(r, 2, 9);
            }
        }
        for (int r : new int[] {4, 1, 5, 0, 2}) {
            x.gossip(r, 3);
            x.deliver(0);
        }
        for (int i = 0; i < 6; i++) {
            Check.due("replica of dot " + i, x.dot(3, 2, 9, i, 0), i);
            Check.due("number of dot " + i, x.dot(3, 2, 9, i, 1), 7 - i);
        }
        Check.due("one element", x.size(3, 2), 1);
        Check.due("six dots", x.remove(3, 2, 9), 6);
    }

    private static void dotWithoutSuch() {
        DotGossip x = new DotGossip();
        three(x);
        for (int i : new int[] {3, 4, 6, -1, -2, Integer.MAX_VALUE, Integer.MIN_VALUE}) {
            Check.due("replica of dot " + i, x.dot(0, 1, 5, i, 0), DotGossip.NONE);
            Check.due("number of dot " + i, x.dot(0, 1, 5, i, 1), DotGossip.NONE);
        }
        Check.due("an element without dots", x.dot(0, 2, 5, 0, 0), DotGossip.NONE);
        Check.due("an element without dots", x.dot(0, 2, 5, 0, 1), DotGossip.NONE);
    }

    private static void wrongElements() {
        for (int r : NO_REPLICA) {
            refuseElement(r, 1, 5);
        }
        for (int s : NO_SET) {
            refuseElement(0, s, 5);
        }
        for (int e : NO_ELEMENT) {
            refuseElement(0, 1, e);
        }
    }

    private static void refuseElement(int r, int s, int e) {
        String at = "(" + r + ", " + s + ", " + e + ")";
        Check.illegal("add" + at, SetTest::three, x -> x.add(r, s, e));
        Check.illegal("remove" + at, SetTest::three, x -> x.remove(r, s, e));
        Check.illegal("contains" + at, SetTest::three, x -> x.contains(r, s, e));
        Check.illegal("dot" + at, SetTest::three, x -> x.dot(r, s, e, 0, 0));
        Check.illegal("dot without such" + at, SetTest::three, x -> x.dot(r, s, e, 9, 1));
    }

    private static void wrongSets() {
        for (int r : NO_REPLICA) {
            Check.illegal("clear, replica " + r, SetTest::three, x -> x.clear(r, 1));
            Check.illegal("size, replica " + r, SetTest::three, x -> x.size(r, 1));
        }
        for (int s : NO_SET) {
            Check.illegal("clear, set " + s, SetTest::three, x -> x.clear(0, s));
            Check.illegal("size, set " + s, SetTest::three, x -> x.size(0, s));
        }
    }

    private static void wrongDots() {
        for (int what : new int[] {-1, 2, 3, Integer.MAX_VALUE, Integer.MIN_VALUE}) {
            Check.illegal("dot, what " + what, SetTest::three, x -> x.dot(0, 1, 5, 0, what));
            Check.illegal("no dot, what " + what, SetTest::three, x -> x.dot(0, 1, 5, 7, what));
        }
    }
}

/** Promises 19 and 20: vector, same. */
public final class StateTest {
    private StateTest() {
    }

    public static void main(String[] args) {
        vectorTellsWhatWasSeen();
        vectorNeverFalls();
        vectorOfSix();
        sameWithNothing();
        eachDifferenceCounts();
        equalLooksAreNotEnough();
        eachPlaceCountsAlone();
        eachRemovedDotCountsAlone();
        whichDotsCounts();
        eachNumberOfTheVectorCounts();
        sameAfterGossip();
        wrongInputs();
        Check.end();
    }

    private static void some(DotGossip x) {
        x.open(3);
        x.add(0, 0, 0);
        x.write(1, 0, 3);
        x.gossip(1, 0);
        x.deliver(0);
        x.gossip(0, 2);
    }

    private static void vectorTellsWhatWasSeen() {
        DotGossip x = new DotGossip();
        some(x);
        int[][] due = {{1, 1, 0}, {0, 1, 0}, {0, 0, 0}};
        for (int r = 0; r < 3; r++) {
            for (int of = 0; of < 3; of++) {
                Check.due("vector(" + r + ", " + of + ")", x.vector(r, of), due[r][of]);
            }
        }
        x.deliver(0);
        Check.due("by way of another", x.vector(2, 1), 1);
        x.remove(0, 0, 0);
        Check.due("removed dots were seen", x.vector(0, 0), 1);
    }

    private static void vectorNeverFalls() {
        DotGossip x = new DotGossip();
        x.add(0, 0, 0);
        x.gossip(0, 1);
        x.add(0, 0, 0);
        x.gossip(0, 1);
        x.deliver(1);
        x.deliver(0);
        Check.due("the greater one", x.vector(1, 0), 2);
        Check.due("the later dot alone", x.dot(1, 0, 0, 0, 1), 2);
        Check.due("no earlier one", x.dot(1, 0, 0, 1, 1), DotGossip.NONE);
    }

    /** Replica r makes r + 1 dots and tells the next one; the messages' vectors are the senders'. */
    private static void vectorOfSix() {
        DotGossip x = new DotGossip();
        x.open(6);
        for (int r = 0; r < 6; r++) {
            for (int k = 0; k <= r; k++) {
                x.add(r, k % 4, k);
            }
            x.gossip(r, (r + 1) % 6);
            for (int of = 0; of < 6; of++) {
                Check.due("message of " + r + ", for " + of, x.message(0, 2 + of), of <= r ? of + 1 : 0);
            }
            x.deliver(0);
        }
        for (int r = 0; r < 6; r++) {
            for (int of = 0; of < 6; of++) {
                Check.due("vector(" + r + ", " + of + ")", x.vector(r, of), r == 0 || of <= r ? of + 1 : 0);
            }
        }
    }

    private static void sameWithNothing() {
        DotGossip x = new DotGossip();
        x.open(6);
        for (int r = 0; r < 6; r++) {
            for (int o = 0; o < 6; o++) {
                Check.due("same", x.same(r, o), true);
            }
        }
        x.add(3, 0, 0);
        Check.due("itself", x.same(3, 3), true);
        Check.due("another", x.same(3, 2), false);
        Check.due("the other way round", x.same(2, 3), false);
        Check.due("two others", x.same(2, 4), true);
    }

    private static void eachDifferenceCounts() {
        differs("an element", x -> x.add(1, 3, 15));
        differs("a value", x -> x.write(1, 3, 0));
        differs("the vector alone", x -> {
            x.add(1, 0, 0);
            x.remove(1, 0, 0);
        });
        differs("what was added", x -> x.count(1, 3, 1));
        differs("what was taken", x -> x.count(1, 3, -1));
        differs("added and taken, the same", x -> {
            x.count(1, 0, 5);
            x.count(1, 0, -5);
        });
        differs("added beyond 32 bits", x -> {
            x.count(1, 0, Integer.MAX_VALUE);
            x.count(1, 0, Integer.MAX_VALUE);
            x.count(1, 0, 2);
        });
        DotGossip x = new DotGossip();
        x.count(1, 0, 0);
        Check.due("nothing counted", x.same(0, 1), true);
        x.remove(1, 0, 0);
        x.clear(1, 0);
        Check.due("nothing removed", x.same(0, 1), true);
    }

    private static void differs(String what, Check.Run change) {
        DotGossip x = new DotGossip();
        change.on(x);
        Check.due(what, x.same(0, 1), false);
        Check.due(what + ", the other way round", x.same(1, 0), false);
    }

    /** The same elements, values and totals, but by other dots or other replicas' counts. */
    private static void equalLooksAreNotEnough() {
        differs("other dots", x -> {
            x.add(0, 0, 0);
            x.add(1, 0, 0);
        });
        differs("other counts", x -> {
            x.count(0, 0, 4);
            x.count(1, 0, 4);
        });
        differs("the same vector, but a removed element", x -> {
            x.add(0, 0, 0);
            x.gossip(0, 1);
            x.deliver(0);
            x.remove(0, 0, 0);
        });
    }

    /** One difference at the first, the last and every other place, made by each replica. */
    private static void eachPlaceCountsAlone() {
        for (int m = 0; m < 6; m++) {
            int maker = m;
            for (int k = 0; k < 4; k++) {
                int which = k;
                differsUntilTold("a value", m, x -> x.write(maker, which, 0));
                differsUntilTold("what was added", m, x -> x.count(maker, which, 1));
                differsUntilTold("what was taken", m, x -> x.count(maker, which, -1));
                for (int e = 0; e < 16; e++) {
                    int element = e;
                    differsUntilTold("an element", m, x -> x.add(maker, which, element));
                }
            }
            differsUntilTold("the vector alone", m, x -> {
                x.add(maker, 0, 0);
                x.remove(maker, 0, 0);
            });
        }
    }

    /** The maker differs from the others, then who was told does, until all are told. */
    private static void differsUntilTold(String what, int maker, Check.Run change) {
        DotGossip x = new DotGossip();
        x.open(6);
        change.on(x);
        int told = (maker + 1) % 6;
        int other = (maker + 5) % 6;
        Check.due(what + ": maker and other", x.same(maker, other), false);
        Check.due(what + ": other and maker", x.same(other, maker), false);
        x.gossip(maker, told);
        x.deliver(0);
        Check.due(what + ": maker and told", x.same(maker, told), true);
        Check.due(what + ": told and other", x.same(told, other), false);
        Check.due(what + ": other and told", x.same(other, told), false);
        x.gossip(told, other);
        x.deliver(0);
        Check.due(what + ": all are told", x.same(told, other), true);
    }

    /** Vectors and all else are the same, but one has removed a dot. */
    private static void eachRemovedDotCountsAlone() {
        for (int maker = 0; maker < 6; maker++) {
            for (int k = 0; k < 64; k++) {
                DotGossip x = new DotGossip();
                x.open(6);
                x.add(maker, k / 16, k % 16);
                int told = (maker + 1) % 6;
                x.gossip(maker, told);
                x.deliver(0);
                x.remove(told, k / 16, k % 16);
                Check.due("removed there", x.same(maker, told), false);
                Check.due("had here", x.same(told, maker), false);
                x.gossip(told, maker);
                x.deliver(0);
                Check.due("removed here, too", x.same(maker, told), true);
            }
        }
    }

    /** An element is in both, by the same vectors, but not by the same dots. */
    private static void whichDotsCounts() {
        DotGossip x = new DotGossip();
        x.open(6);
        x.add(0, 3, 15);
        x.add(1, 3, 15);
        // 2 has the dot of 1 alone, 3 that of 0 alone, 4 has both and 5 none; all have seen both.
        pass(x, 0, 5);
        x.remove(5, 3, 15);
        pass(x, 5, 2);
        pass(x, 1, 2);
        pass(x, 1, 5);
        x.remove(5, 3, 15);
        pass(x, 1, 3);
        x.remove(3, 3, 15);
        pass(x, 0, 3);
        pass(x, 0, 4);
        pass(x, 1, 4);
        int[][] dots = {{1, DotGossip.NONE}, {0, DotGossip.NONE}, {0, 1}, {DotGossip.NONE, DotGossip.NONE}};
        for (int r = 2; r < 6; r++) {
            Check.due("seen of 0", x.vector(r, 0), 1);
            Check.due("seen of 1", x.vector(r, 1), 1);
            Check.due("first dot", x.dot(r, 3, 15, 0, 0), dots[r - 2][0]);
            Check.due("second dot", x.dot(r, 3, 15, 1, 0), dots[r - 2][1]);
            for (int other = 2; other < 6; other++) {
                Check.due("same(" + r + ", " + other + ")", x.same(r, other), r == other);
            }
        }
    }

    private static void pass(DotGossip x, int from, int to) {
        x.gossip(from, to);
        x.deliver(0);
    }

    /** No dots are left, and as many were seen, but of other replicas. */
    private static void eachNumberOfTheVectorCounts() {
        DotGossip x = new DotGossip();
        x.open(3);
        x.add(0, 0, 0);
        x.add(0, 0, 0);
        x.add(1, 0, 0);
        x.add(1, 0, 0);
        x.add(2, 0, 0);
        x.clear(0, 0);
        x.clear(1, 0);
        x.clear(2, 0);
        Check.due("2 0 0 and 0 2 0", x.same(0, 1), false);
        Check.due("0 2 0 and 2 0 0", x.same(1, 0), false);
        Check.due("0 2 0 and 0 0 1", x.same(1, 2), false);
        pass(x, 0, 1);
        Check.due("2 0 0 and 2 2 0", x.same(0, 1), false);
        pass(x, 1, 0);
        Check.due("2 2 0 and 2 2 0", x.same(0, 1), true);
    }

    private static void sameAfterGossip() {
        DotGossip x = new DotGossip();
        x.open(3);
        for (int r = 0; r < 3; r++) {
            x.add(r, 0, 1);
            x.write(r, 1, r);
            x.count(r, 2, r + 1);
            x.count(r, 2, -1);
        }
        int[][] ways = {{0, 1}, {1, 2}, {2, 0}, {0, 1}};
        for (int[] way : ways) {
            x.gossip(way[0], way[1]);
            x.deliver(0);
        }
        Check.due("0 and 1", x.same(0, 1), true);
        Check.due("1 and 2", x.same(1, 2), true);
        x.write(1, 1, 5);
        x.gossip(1, 2);
        x.deliver(0);
        Check.due("0 and 2", x.same(0, 2), false);
        Check.due("1 and 2 again", x.same(1, 2), true);
    }

    private static void wrongInputs() {
        for (int r : new int[] {-1, 3, 5, 6, Integer.MAX_VALUE, Integer.MIN_VALUE}) {
            Check.illegal("vector of " + r, StateTest::some, x -> x.vector(r, 0));
            Check.illegal("vector for " + r, StateTest::some, x -> x.vector(0, r));
            Check.illegal("same, replica " + r, StateTest::some, x -> x.same(r, 0));
            Check.illegal("same, other " + r, StateTest::some, x -> x.same(0, r));
            Check.illegal("same, both " + r, StateTest::some, x -> x.same(r, r));
        }
    }
}

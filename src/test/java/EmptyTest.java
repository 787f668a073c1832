/** Nothing is there: an empty set, element, register, counter, vector, message, row of messages. */
public final class EmptyTest {
    private static final int NONE = DotGossip.NONE;
    private static final int[] ANY = {Integer.MIN_VALUE, -2, -1, 0, 1, 99, 100, Integer.MAX_VALUE};

    private EmptyTest() {
    }

    public static void main(String[] args) {
        newObjectHasNothing();
        openedObjectHasNothing();
        openedAgainHasNothing();
        removeOfNoElement();
        clearOfEmptySet();
        writeToEmptyRegister();
        countOfNothing();
        gossipOfNothing();
        deliverOfNothing();
        deliverToOneThatHasNothing();
        noMessageToDeliver();
        noMessageToDrop();
        noMessageToCopy();
        noMessageToTurn();
        noMessageToAsk();
        elementThatWasRemoved();
        setThatWasCleared();
        vectorWithoutADot();
        sameWithNothing();
        Check.end();
    }

    /** Promise 1: two replicas that have nothing, no messages. */
    private static void newObjectHasNothing() {
        hasNothing("new", x -> { }, 2);
    }

    /** Promise 2: so many replicas that have nothing, no messages. */
    private static void openedObjectHasNothing() {
        for (int n = 2; n <= 6; n++) {
            int many = n;
            hasNothing("open(" + n + ")", x -> x.open(many), n);
        }
    }

    private static void openedAgainHasNothing() {
        for (int before = 2; before <= 6; before++) {
            for (int n = 2; n <= 6; n++) {
                int first = before;
                int many = n;
                hasNothing("open(" + before + "), open(" + n + ")", x -> {
                    x.open(first);
                    fill(x, first);
                    x.open(many);
                }, n);
            }
        }
    }

    /** Every replica has a dot at some element of each set and in each register, and every counter. */
    private static void fill(DotGossip x, int n) {
        for (int r = 0; r < n; r++) {
            for (int k = 0; k < 4; k++) {
                x.add(r, k, 5 * k);
                x.write(r, k, r + 1);
                x.count(r, k, 3);
                x.count(r, k, -1);
            }
            x.gossip(r, (r + 1) % n);
        }
        x.deliver(0);
    }

    private static void hasNothing(String when, Check.Run start, int n) {
        for (int r = 0; r < n; r++) {
            DotGossip x = new DotGossip();
            start.on(x);
            String who = when + ", replica " + r;
            for (int k = 0; k < 64; k++) {
                Check.due(who + ": contains", x.contains(r, k / 16, k % 16), false);
                Check.due(who + ": dot's replica", x.dot(r, k / 16, k % 16, 0, 0), NONE);
                Check.due(who + ": dot's number", x.dot(r, k / 16, k % 16, 0, 1), NONE);
            }
            for (int k = 0; k < 4; k++) {
                Check.due(who + ": size", x.size(r, k), 0);
                Check.due(who + ": values", x.values(r, k), 0);
                Check.due(who + ": value's replica", x.value(r, k, 0, 0), NONE);
                Check.due(who + ": value's number", x.value(r, k, 0, 1), NONE);
                Check.due(who + ": value", x.value(r, k, 0, 2), 0);
                Check.due(who + ": total", x.total(r, k), 0);
            }
            for (int other = 0; other < n; other++) {
                Check.due(who + ": vector", x.vector(r, other), 0);
                Check.due(who + ": same", x.same(r, other), true);
            }
            Check.due(who + ": replicas", x.message(0, NONE), n);
            Check.due(who + ": messages", x.message(0, -2), 0);
            Check.due(who + ": its first number", x.add(r, 3, 15), 1);
            Check.due(who + ": its first message", x.gossip(r, r == 0 ? 1 : 0), 1);
        }
    }

    /** Promise 4: how many dots it had, none. */
    private static void removeOfNoElement() {
        for (int k = 0; k < 64; k++) {
            DotGossip x = new DotGossip();
            Check.due("remove", x.remove(1, k / 16, k % 16), 0);
            Check.due("vector", x.vector(1, 1), 0);
        }
        Check.alike("remove of none changes nothing", x -> x.remove(0, 1, 1), x -> { });
    }

    /** Promise 5: how many were in it, none. */
    private static void clearOfEmptySet() {
        for (int s = 0; s < 4; s++) {
            int set = s;
            DotGossip x = new DotGossip();
            Check.due("clear", x.clear(1, s), 0);
            Check.alike("clear of an empty set changes nothing", y -> y.clear(1, set), y -> { });
        }
    }

    /** Promise 6: how many values there were, none. */
    private static void writeToEmptyRegister() {
        for (int g = 0; g < 4; g++) {
            DotGossip x = new DotGossip();
            Check.due("write", x.write(1, g, 0), 0);
            Check.due("a written 0 is a value", x.values(1, g), 1);
            Check.due("its number", x.value(1, g, 0, 1), 1);
            Check.due("write again", x.write(1, g, 0), 1);
        }
    }

    /** Promise 7: 0 is neither added nor taken. */
    private static void countOfNothing() {
        for (int c = 0; c < 4; c++) {
            DotGossip x = new DotGossip();
            Check.due("count 0", x.count(1, c, 0), 0);
            Check.due("total", x.total(1, c), 0);
            Check.due("same", x.same(0, 1), true);
        }
        DotGossip x = new DotGossip();
        x.count(0, 0, 6);
        Check.due("count 0 on 6", x.count(0, 0, 0), 6);
        x.count(0, 0, -8);
        Check.due("count 0 on -2", x.count(0, 0, 0), -2);
    }

    /** Promise 8: a message of a replica that has nothing is one. */
    private static void gossipOfNothing() {
        DotGossip x = new DotGossip();
        x.open(6);
        Check.due("gossip", x.gossip(5, 0), 1);
        Check.due("messages", x.message(0, -2), 1);
        Check.due("from", x.message(0, 0), 5);
        Check.due("to", x.message(0, 1), 0);
        for (int of = 0; of < 6; of++) {
            Check.due("its vector for " + of, x.message(0, 2 + of), 0);
        }
    }

    /** Promise 9: no dots come, and what the receiver has is above what the message has seen. */
    private static void deliverOfNothing() {
        DotGossip x = new DotGossip();
        x.gossip(0, 1);
        Check.due("to one that has nothing", x.deliver(0), 0);
        Check.due("it lies there no more", x.message(0, -2), 0);
        Check.due("same", x.same(0, 1), true);
        Check.Run some = y -> {
            y.add(1, 2, 0);
            y.write(1, 2, 9);
            y.count(1, 2, 4);
            y.count(1, 2, -1);
        };
        Check.alike("to one that has something", y -> {
            some.on(y);
            y.gossip(0, 1);
            y.deliver(0);
        }, some);
    }

    private static void deliverToOneThatHasNothing() {
        DotGossip x = new DotGossip();
        x.add(0, 0, 0);
        x.add(0, 3, 15);
        x.write(0, 0, 1);
        x.write(0, 3, 2);
        x.count(0, 0, 5);
        x.count(0, 3, -5);
        x.gossip(0, 1);
        Check.due("all dots come", x.deliver(0), 4);
        Check.due("and all else", x.same(0, 1), true);
    }

    private static void noMessageToDeliver() {
        noMessage("deliver", DotGossip::deliver);
    }

    private static void noMessageToDrop() {
        noMessage("drop", DotGossip::drop);
    }

    private static void noMessageToCopy() {
        noMessage("copy", DotGossip::copy);
    }

    private static void noMessageToTurn() {
        noMessage("turn", (x, i) -> x.turn(i, 1));
    }

    /** Promise 21: nothing is to be told of no message but how many replicas and messages there are. */
    private static void noMessageToAsk() {
        for (int w = 0; w < 4; w++) {
            int what = w;
            noMessage("message, what " + what, (x, i) -> x.message(i, what));
        }
        for (int i : ANY) {
            DotGossip x = new DotGossip();
            x.open(5);
            Check.due("replicas, i " + i, x.message(i, NONE), 5);
            Check.due("messages, i " + i, x.message(i, -2), 0);
        }
    }

    private interface OfMessage {
        void ask(DotGossip x, int i);
    }

    private static void noMessage(String call, OfMessage of) {
        for (int i : ANY) {
            String what = call + " " + i + " of no message, ";
            Check.illegal(what + "new", x -> { }, x -> of.ask(x, i));
            Check.illegal(what + "after deliver", x -> {
                x.add(0, 0, 0);
                x.gossip(0, 1);
                x.deliver(0);
            }, x -> of.ask(x, i));
            Check.illegal(what + "after drop", x -> {
                x.add(0, 0, 0);
                x.gossip(0, 1);
                x.copy(0);
                x.drop(1);
                x.drop(0);
            }, x -> of.ask(x, i));
            Check.illegal(what + "after open", x -> {
                x.gossip(0, 1);
                x.open(2);
            }, x -> of.ask(x, i));
        }
    }

    /** Promises 4, 13 to 15: an element is in a set if it has a dot there. */
    private static void elementThatWasRemoved() {
        DotGossip x = new DotGossip();
        x.add(0, 0, 0);
        x.add(0, 0, 15);
        Check.due("remove", x.remove(0, 0, 0), 1);
        Check.due("contains", x.contains(0, 0, 0), false);
        Check.due("the last one stays", x.contains(0, 0, 15), true);
        Check.due("size", x.size(0, 0), 1);
        Check.due("dot", x.dot(0, 0, 0, 0, 1), NONE);
        Check.due("remove the last one", x.remove(0, 0, 15), 1);
        Check.due("size of none", x.size(0, 0), 0);
        Check.due("remove again", x.remove(0, 0, 15), 0);
        Check.due("clear", x.clear(0, 0), 0);
    }

    private static void setThatWasCleared() {
        DotGossip x = new DotGossip();
        x.add(0, 3, 0);
        x.add(0, 3, 15);
        Check.due("clear", x.clear(0, 3), 2);
        Check.due("size", x.size(0, 3), 0);
        Check.due("contains the first", x.contains(0, 3, 0), false);
        Check.due("contains the last", x.contains(0, 3, 15), false);
        Check.due("dot of the last", x.dot(0, 3, 15, 0, 0), NONE);
        Check.due("remove", x.remove(0, 3, 15), 0);
        Check.due("clear again", x.clear(0, 3), 0);
        Check.due("the vector keeps what was seen", x.vector(0, 0), 2);
    }

    /** Promise 19: 0 without one. */
    private static void vectorWithoutADot() {
        DotGossip x = new DotGossip();
        x.open(4);
        x.count(0, 0, 7);
        x.remove(0, 0, 0);
        x.clear(0, 0);
        x.gossip(0, 1);
        x.deliver(0);
        Check.due("counting, removing, gossip make no dot", x.vector(0, 0), 0);
        x.add(2, 0, 0);
        x.gossip(2, 1);
        x.deliver(0);
        int[] due = {0, 0, 1, 0};
        for (int of = 0; of < 4; of++) {
            Check.due("seen of " + of, x.vector(1, of), due[of]);
            Check.due("seen by one that had no message", x.vector(3, of), 0);
        }
    }

    /** Promise 20: what has nothing is the same as all that has nothing. */
    private static void sameWithNothing() {
        DotGossip x = new DotGossip();
        x.open(6);
        x.add(5, 3, 15);
        for (int r = 0; r < 6; r++) {
            for (int other = 0; other < 6; other++) {
                Check.due("same", x.same(r, other), r == other || r < 5 && other < 5);
            }
        }
    }
}

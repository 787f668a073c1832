/** Promises 8 to 12 and 21: gossip, deliver, drop, copy, turn, message. */
public final class WireTest {
    private static final int[] NO_REPLICA = {-1, 3, 6, Integer.MAX_VALUE, Integer.MIN_VALUE};
    private static final int[] NO_MESSAGE = {-1, 3, 4, 99, 100, Integer.MAX_VALUE, Integer.MIN_VALUE};

    private WireTest() {
    }

    public static void main(String[] args) {
        gossipSendsAllAsItIs();
        gossipFull();
        gossipRefuses();
        deliverKeepsWhatBothHave();
        deliverRemovesWhatWasSeen();
        deliverKeepsWhatWasNotSeen();
        deliverBringsNoRemovedDot();
        deliverWeighsEachDotByTheOldVector();
        deliverBothGone();
        deliverTakesTheMessageAway();
        drops();
        copies();
        copyHasWhatWasSent();
        copyGoesWhereTheTurnedOneGoes();
        copyStaysAsItWasWhenTheOtherCame();
        turns();
        turnChangesTheReceiverAlone();
        asksMessages();
        wrongMessages();
        Check.end();
    }

    private static final class Full implements Check.Run {
        @Override
        public void on(DotGossip x) {
            x.open(3);
            x.add(0, 0, 0);
            for (int k = 0; k < 100; k++) {
                x.gossip(k % 3, (k + 1) % 3);
            }
        }
    }

    /** Three messages, told apart by their senders, receivers and vectors. */
    private static void three(DotGossip x) {
        x.open(3);
        x.add(0, 0, 1);
        x.gossip(0, 1);
        x.write(1, 0, 5);
        x.count(1, 0, 5);
        x.gossip(1, 2);
        x.add(2, 0, 1);
        x.add(2, 0, 2);
        x.gossip(2, 0);
    }

    private static void gossipSendsAllAsItIs() {
        DotGossip x = new DotGossip();
        x.add(0, 1, 1);
        x.write(0, 1, 8);
        x.count(0, 1, 4);
        Check.due("gossip", x.gossip(0, 1), 1);
        x.remove(0, 1, 1);
        x.add(0, 1, 2);
        x.write(0, 1, 9);
        x.count(0, 1, 4);
        Check.due("gossip again", x.gossip(0, 1), 2);
        Check.due("the vector as sent", x.message(0, 2), 2);
        Check.due("an element's and a register's dot", x.deliver(0), 2);
        Check.due("the element as sent", x.contains(1, 1, 1), true);
        Check.due("no later element", x.contains(1, 1, 2), false);
        Check.due("the value as sent", x.value(1, 1, 0, 2), 8);
        Check.due("the counter as sent", x.total(1, 1), 4);
        Check.due("the vector as sent", x.vector(1, 0), 2);
        Check.due("a receiver makes no dots of its own", x.vector(1, 1), 0);
        Check.due("what came later", x.deliver(0), 2);
        Check.due("all the same", x.same(0, 1), true);
    }

    private static void gossipFull() {
        DotGossip x = new DotGossip();
        for (int k = 1; k <= 100; k++) {
            Check.due("gossip", x.gossip(k % 2, (k + 1) % 2), k);
        }
        Check.refused("gossip with 100", new Full(), y -> y.gossip(0, 1), IllegalStateException.class);
        Check.illegal("gossip to itself with 100", new Full(), y -> y.gossip(1, 1));
        Check.illegal("gossip from nobody with 100", new Full(), y -> y.gossip(3, 1));
        Check.illegal("gossip to nobody with 100", new Full(), y -> y.gossip(1, 3));
        x.drop(50);
        Check.due("room again", x.gossip(0, 1), 100);
    }

    private static void gossipRefuses() {
        for (int r : NO_REPLICA) {
            Check.illegal("gossip from " + r, WireTest::three, x -> x.gossip(r, 0));
            Check.illegal("gossip to " + r, WireTest::three, x -> x.gossip(0, r));
            Check.illegal("gossip both " + r, WireTest::three, x -> x.gossip(r, r));
        }
        for (int r = 0; r < 3; r++) {
            int same = r;
            Check.illegal("gossip to itself " + r, WireTest::three, x -> x.gossip(same, same));
        }
    }

    private static void deliverKeepsWhatBothHave() {
        DotGossip x = new DotGossip();
        x.add(0, 0, 3);
        x.write(0, 0, 4);
        x.gossip(0, 1);
        x.copy(0);
        Check.due("two dots come", x.deliver(0), 2);
        Check.due("none comes twice", x.deliver(0), 0);
        Check.due("the element stays", x.contains(1, 0, 3), true);
        Check.due("the value stays", x.value(1, 0, 0, 2), 4);
        x.gossip(1, 0);
        Check.due("none comes back", x.deliver(0), 0);
        Check.due("it stays at home", x.contains(0, 0, 3), true);
    }

    private static void deliverRemovesWhatWasSeen() {
        DotGossip x = new DotGossip();
        x.add(0, 0, 3);
        x.gossip(0, 1);
        x.deliver(0);
        x.remove(1, 0, 3);
        x.gossip(1, 0);
        Check.due("no dot comes", x.deliver(0), 0);
        Check.due("it is removed here, too", x.contains(0, 0, 3), false);
    }

    /** Adding wins over removing at the same time. */
    private static void deliverKeepsWhatWasNotSeen() {
        DotGossip x = new DotGossip();
        x.add(0, 0, 3);
        x.gossip(0, 1);
        x.deliver(0);
        x.remove(1, 0, 3);
        x.add(0, 0, 3);
        x.gossip(1, 0);
        x.gossip(0, 1);
        x.deliver(0);
        Check.due("it stays", x.dot(0, 0, 3, 0, 1), 2);
        Check.due("it comes", x.deliver(0), 1);
        Check.due("it is in", x.dot(1, 0, 3, 0, 1), 2);
        Check.due("and the same", x.same(0, 1), true);
    }

    private static void deliverBringsNoRemovedDot() {
        DotGossip x = new DotGossip();
        x.add(0, 0, 3);
        x.gossip(0, 1);
        x.copy(0);
        x.deliver(0);
        x.remove(1, 0, 3);
        Check.due("the doubled message brings nothing", x.deliver(0), 0);
        Check.due("it stays removed", x.contains(1, 0, 3), false);
    }

    private static void deliverWeighsEachDotByTheOldVector() {
        DotGossip x = new DotGossip();
        for (int e = 15; e >= 0; e--) {
            x.add(0, 2, e);
        }
        x.write(0, 0, 1);
        x.write(0, 3, 2);
        x.gossip(0, 1);
        Check.due("all come", x.deliver(0), 18);
        Check.due("size", x.size(1, 2), 16);
        Check.due("vector", x.vector(1, 0), 18);
    }

    /** Each has a dot that the other has seen and has no more: none of them is left. */
    private static void deliverBothGone() {
        DotGossip x = new DotGossip();
        x.open(3);
        x.add(0, 0, 3);
        x.add(1, 0, 3);
        x.gossip(0, 2);
        x.gossip(1, 2);
        x.copy(0);
        x.copy(1);
        x.turn(2, 1);
        x.turn(3, 0);
        for (int k = 0; k < 4; k++) {
            Check.due("each message brings a dot", x.deliver(0), 1);
        }
        x.add(0, 0, 3);
        x.add(0, 1, 3);
        x.remove(0, 0, 3);
        x.gossip(0, 1);
        Check.due("the one new dot comes", x.deliver(0), 1);
        Check.due("the two old ones are gone", x.contains(1, 0, 3), false);
        Check.due("the third replica has both", x.remove(2, 0, 3), 2);
    }

    private static void deliverTakesTheMessageAway() {
        DotGossip x = new DotGossip();
        three(x);
        Check.due("deliver", x.deliver(1), 1);
        Check.due("messages", x.message(0, -2), 2);
        Check.due("the first stays", x.message(0, 0), 0);
        Check.due("the last moves up", x.message(1, 0), 2);
        Check.due("its receiver has it", x.values(2, 0), 1);
        Check.due("nobody else has", x.values(0, 0), 0);
        Check.due("its counter, too", x.total(2, 0), 5);
    }

    private static void drops() {
        DotGossip x = new DotGossip();
        three(x);
        Check.due("drop", x.drop(1), 2);
        Check.due("messages", x.message(0, -2), 2);
        Check.due("the first stays", x.message(0, 1), 1);
        Check.due("the last moves up", x.message(1, 1), 0);
        Check.due("nothing came", x.values(2, 0), 0);
        Check.due("nothing was seen", x.vector(2, 1), 0);
        Check.due("nothing was counted", x.total(2, 0), 0);
        x.turn(0, 2);
        Check.due("to whom it was turned", x.drop(0), 2);
        Check.due("drop the last", x.drop(0), 0);
        Check.due("none is left", x.message(0, -2), 0);
    }

    private static void copies() {
        DotGossip x = new DotGossip();
        three(x);
        Check.due("copy", x.copy(0), true);
        Check.due("messages", x.message(0, -2), 4);
        Check.due("behind all others: from", x.message(3, 0), 0);
        Check.due("to", x.message(3, 1), 1);
        Check.due("vector", x.message(3, 2), 1);
        Check.due("the second stays", x.message(1, 0), 1);
        x.turn(3, 2);
        Check.due("the first one is not turned", x.message(0, 1), 1);
        x.turn(0, 0);
        Check.due("nor is the copy", x.message(3, 1), 2);
        Check.due("a turned copy keeps its message", x.deliver(3), 1);
        x.drop(0);
        x.copy(0);
        x.drop(0);
        Check.due("a copy outlives the first", x.message(1, 0), 1);
        Check.due("and is whole", x.deliver(1), 1);
        Check.due("with its counter", x.total(2, 0), 5);

        DotGossip full = new DotGossip();
        new Full().on(full);
        Check.due("copy without room", full.copy(99), false);
        Check.due("still 100", full.message(0, -2), 100);
        Check.alike("copy without room changes nothing", new Full(), y -> {
            new Full().on(y);
            y.copy(0);
        });
        full.drop(0);
        Check.due("copy with room for one", full.copy(98), true);
        Check.due("100 again", full.message(0, -2), 100);
    }

    /** Whatever its sender or its receiver became since, it is the message once more. */
    private static void copyHasWhatWasSent() {
        DotGossip x = new DotGossip();
        x.open(3);
        x.add(0, 0, 1);
        x.write(0, 0, 5);
        x.count(0, 0, 3);
        x.gossip(0, 1);
        x.clear(0, 0);
        x.add(0, 0, 2);
        x.write(0, 0, 6);
        x.count(0, 0, 4);
        x.copy(0);
        Check.due("its vector", x.message(1, 2), 2);
        x.deliver(0);
        x.turn(0, 2);
        Check.due("its dots", x.deliver(0), 2);
        Check.due("the element", x.contains(2, 0, 1), true);
        Check.due("no later element", x.contains(2, 0, 2), false);
        Check.due("the value", x.value(2, 0, 0, 2), 5);
        Check.due("the counter", x.total(2, 0), 3);
        Check.due("as the first one brought", x.same(1, 2), true);
    }

    /** Message i as it is now, so the copy of a turned message goes where that one goes. */
    private static void copyGoesWhereTheTurnedOneGoes() {
        DotGossip x = new DotGossip();
        x.open(3);
        x.add(0, 0, 1);
        x.gossip(0, 1);
        x.turn(0, 2);
        x.copy(0);
        Check.due("from whom", x.message(1, 0), 0);
        Check.due("to whom", x.message(1, 1), 2);
        x.copy(1);
        Check.due("to whom the copy's copy goes", x.message(2, 1), 2);
        Check.due("drop", x.drop(0), 2);
        Check.due("deliver", x.deliver(0), 1);
        Check.due("it came there", x.contains(2, 0, 1), true);
        Check.due("and not to the first receiver", x.contains(1, 0, 1), false);
        x.turn(0, 0);
        x.copy(0);
        Check.due("to its sender, too", x.message(1, 1), 0);
    }

    /** What one of two equal messages met at its receiver does not show in the other. */
    private static void copyStaysAsItWasWhenTheOtherCame() {
        for (int first = 0; first < 2; first++) {
            DotGossip x = new DotGossip();
            x.open(4);
            x.add(0, 0, 1);
            x.gossip(0, 1);
            x.deliver(0);
            x.remove(1, 0, 1);
            x.add(1, 0, 3);
            x.write(1, 0, 6);
            x.count(1, 0, 100);
            x.count(1, 0, -10);
            x.add(0, 0, 2);
            x.write(0, 0, 5);
            x.count(0, 0, 4);
            x.count(0, 0, -1);
            x.gossip(0, 1);
            x.copy(0);
            Check.due("an element's and a register's dot are new", x.deliver(first), 2);
            x.clear(1, 0);
            x.write(1, 0, 7);
            x.count(1, 0, 1000);
            x.count(1, 0, -2000);
            int[] vector = {3, 0, 0, 0};
            for (int of = 0; of < 4; of++) {
                Check.due("its vector for " + of, x.message(0, 2 + of), vector[of]);
            }
            x.turn(0, 3);
            Check.due("all its dots come", x.deliver(0), 3);
            Check.due("one that the other's receiver had removed", x.dot(3, 0, 1, 0, 1), 1);
            Check.due("one that it removed since", x.dot(3, 0, 2, 0, 1), 2);
            Check.due("none that it had", x.size(3, 0), 2);
            Check.due("the value", x.value(3, 0, 0, 2), 5);
            Check.due("the value alone", x.values(3, 0), 1);
            Check.due("the counter", x.total(3, 0), 3);
            Check.due("as its sender is", x.same(0, 3), true);
        }
    }

    private static void turns() {
        DotGossip x = new DotGossip();
        three(x);
        x.turn(0, 2);
        Check.due("to whom", x.message(0, 1), 2);
        Check.due("from whom", x.message(0, 0), 0);
        Check.due("others stay", x.message(1, 1), 2);
        Check.due("deliver", x.deliver(0), 1);
        Check.due("the first receiver gets nothing", x.contains(1, 0, 1), false);
        Check.due("the other gets it beside its own", x.remove(2, 0, 1), 2);
        x.turn(0, 1);
        Check.due("to its sender", x.message(0, 1), 1);
        x.write(1, 0, 6);
        Check.due("an old self brings nothing", x.deliver(0), 0);
        Check.due("and takes nothing away", x.value(1, 0, 0, 2), 6);
        x.turn(0, 0);
        Check.due("to the same as before", x.message(0, 1), 0);
    }

    /** However often it is turned, and to its sender, too, it has what was sent. */
    private static void turnChangesTheReceiverAlone() {
        DotGossip x = new DotGossip();
        x.open(4);
        x.add(1, 0, 3);
        x.gossip(1, 0);
        x.deliver(0);
        x.add(0, 0, 1);
        x.write(0, 0, 5);
        x.count(0, 0, 3);
        x.gossip(0, 1);
        x.clear(0, 0);
        x.write(0, 0, 6);
        x.count(0, 0, 4);
        int[] vector = {2, 1, 0, 0};
        for (int to : new int[] {0, 1, 2, 0, 3, 3}) {
            x.turn(0, to);
            Check.due("from whom", x.message(0, 0), 0);
            Check.due("to whom", x.message(0, 1), to);
            for (int of = 0; of < 4; of++) {
                Check.due("its vector for " + of, x.message(0, 2 + of), vector[of]);
            }
        }
        Check.due("one message", x.message(0, -2), 1);
        Check.due("its dots", x.deliver(0), 3);
        Check.due("its own element", x.contains(3, 0, 1), true);
        Check.due("another's element", x.contains(3, 0, 3), true);
        Check.due("the value", x.value(3, 0, 0, 2), 5);
        Check.due("the counter", x.total(3, 0), 3);
    }

    private static void asksMessages() {
        DotGossip x = new DotGossip();
        three(x);
        int[][] due = {{0, 1, 1, 0, 0}, {1, 2, 0, 1, 0}, {2, 0, 0, 0, 2}};
        for (int i = 0; i < 3; i++) {
            for (int what = 0; what < 5; what++) {
                Check.due("message(" + i + ", " + what + ")", x.message(i, what), due[i][what]);
            }
        }
        for (int i : new int[] {0, 2, 3, -1, 100, Integer.MAX_VALUE, Integer.MIN_VALUE}) {
            Check.due("replicas", x.message(i, DotGossip.NONE), 3);
            Check.due("messages", x.message(i, -2), 3);
        }
        for (int what : new int[] {5, 6, 7, 8, -3, -4, Integer.MAX_VALUE, Integer.MIN_VALUE, Integer.MIN_VALUE + 1}) {
            Check.illegal("message, what " + what, WireTest::three, y -> y.message(0, what));
        }
    }

    private static void wrongMessages() {
        for (int i : NO_MESSAGE) {
            Check.illegal("deliver " + i, WireTest::three, x -> x.deliver(i));
            Check.illegal("drop " + i, WireTest::three, x -> x.drop(i));
            Check.illegal("copy " + i, WireTest::three, x -> x.copy(i));
            Check.illegal("turn " + i, WireTest::three, x -> x.turn(i, 0));
            for (int w = 0; w < 5; w++) {
                int what = w;
                Check.illegal("message " + i, WireTest::three, x -> x.message(i, what));
            }
        }
        for (int r : NO_REPLICA) {
            Check.illegal("turn to " + r, WireTest::three, x -> x.turn(1, r));
        }
        Check.illegal("copy 100 of 100", new Full(), x -> x.copy(100));
        Check.illegal("copy -1 of 100", new Full(), x -> x.copy(-1));
    }
}

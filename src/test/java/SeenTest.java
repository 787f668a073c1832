/** Promise 9 at its edges: a dot's number is one below, just at, or one above what was seen. */
public final class SeenTest {
    private static final int NONE = DotGossip.NONE;

    private SeenTest() {
    }

    public static void main(String[] args) {
        elementThatBothHave();
        elementHereBelowTheirVector();
        elementHereJustAtTheirVector();
        elementHereJustAboveTheirVector();
        elementThereBelowOurVector();
        elementThereJustAtOurVector();
        elementThereJustAboveOurVector();
        registerThatBothHave();
        registerHereJustAtTheirVector();
        registerHereJustAboveTheirVector();
        registerThereJustAtOurVector();
        registerThereJustAboveOurVector();
        vectorOfTheDotsOwnReplica();
        vectorBecomesTheGreaterForEach();
        countsBecomeTheGreaterForEach();
        firstNumberOfAReplica();
        oldSelfBringsNothingBack();
        Check.end();
    }

    private static void send(DotGossip x, int from, int to, int due) {
        x.gossip(from, to);
        Check.due("dots that come from " + from + " to " + to, x.deliver(0), due);
    }

    /** A dot stays if both have it. */
    private static void elementThatBothHave() {
        DotGossip x = new DotGossip();
        x.add(0, 3, 15);
        send(x, 0, 1, 1);
        send(x, 0, 1, 0);
        Check.due("it stays where it came", x.dot(1, 3, 15, 0, 1), 1);
        send(x, 1, 0, 0);
        Check.due("it stays where it was made", x.dot(0, 3, 15, 0, 1), 1);
        x.add(0, 0, 0);
        send(x, 1, 0, 0);
        send(x, 0, 1, 1);
        Check.due("though their vector is above it", x.dot(1, 3, 15, 0, 1), 1);
        Check.due("same", x.same(0, 1), true);
    }

    /** One that is here alone stays if its number is above the message's vector. */
    private static void elementHereBelowTheirVector() {
        DotGossip x = new DotGossip();
        x.add(0, 0, 1);
        x.add(0, 0, 2);
        send(x, 0, 1, 2);
        x.remove(1, 0, 1);
        send(x, 1, 0, 0);
        Check.due("number 1, their vector 2", x.contains(0, 0, 1), false);
        Check.due("number 2 is there, too", x.contains(0, 0, 2), true);
    }

    private static void elementHereJustAtTheirVector() {
        DotGossip x = new DotGossip();
        x.add(0, 0, 1);
        x.add(0, 0, 2);
        send(x, 0, 1, 2);
        x.remove(1, 0, 2);
        send(x, 1, 0, 0);
        Check.due("number 2, their vector 2", x.contains(0, 0, 2), false);
        Check.due("number 1 is there, too", x.contains(0, 0, 1), true);
    }

    private static void elementHereJustAboveTheirVector() {
        DotGossip x = new DotGossip();
        x.add(0, 0, 1);
        x.add(0, 0, 2);
        send(x, 0, 1, 2);
        x.clear(1, 0);
        x.add(0, 0, 2);
        send(x, 1, 0, 0);
        Check.due("number 3, their vector 2", x.dot(0, 0, 2, 0, 1), 3);
        Check.due("number 1 is gone", x.contains(0, 0, 1), false);
    }

    /** One that the message has alone comes if its number is above the vector here. */
    private static void elementThereBelowOurVector() {
        DotGossip x = new DotGossip();
        x.add(0, 0, 1);
        x.add(0, 0, 2);
        send(x, 0, 1, 2);
        x.remove(1, 0, 1);
        send(x, 0, 1, 0);
        Check.due("number 1, our vector 2", x.contains(1, 0, 1), false);
    }

    private static void elementThereJustAtOurVector() {
        DotGossip x = new DotGossip();
        x.add(0, 0, 1);
        x.add(0, 0, 2);
        send(x, 0, 1, 2);
        x.remove(1, 0, 2);
        send(x, 0, 1, 0);
        Check.due("number 2, our vector 2", x.contains(1, 0, 2), false);
    }

    private static void elementThereJustAboveOurVector() {
        DotGossip x = new DotGossip();
        x.add(0, 0, 1);
        x.add(0, 0, 2);
        send(x, 0, 1, 2);
        x.clear(1, 0);
        x.add(0, 0, 2);
        send(x, 0, 1, 1);
        Check.due("number 3, our vector 2", x.dot(1, 0, 2, 0, 1), 3);
        Check.due("number 1 stays away", x.contains(1, 0, 1), false);
    }

    private static void registerThatBothHave() {
        DotGossip x = new DotGossip();
        x.write(0, 3, 8);
        send(x, 0, 1, 1);
        send(x, 0, 1, 0);
        send(x, 1, 0, 0);
        for (int r = 0; r < 2; r++) {
            Check.due("values", x.values(r, 3), 1);
            Check.due("value", x.value(r, 3, 0, 2), 8);
        }
    }

    private static void registerHereJustAtTheirVector() {
        DotGossip x = new DotGossip();
        x.write(0, 0, 8);
        send(x, 0, 1, 1);
        x.write(1, 0, 9);
        send(x, 1, 0, 1);
        Check.due("the old value is gone", x.values(0, 0), 1);
        Check.due("the new one's replica", x.value(0, 0, 0, 0), 1);
        Check.due("the new one", x.value(0, 0, 0, 2), 9);
    }

    private static void registerHereJustAboveTheirVector() {
        DotGossip x = new DotGossip();
        x.write(0, 0, 8);
        send(x, 0, 1, 1);
        x.write(1, 0, 9);
        x.write(0, 0, 10);
        send(x, 1, 0, 1);
        Check.due("both were written at the same time", x.values(0, 0), 2);
        Check.due("ours", x.value(0, 0, 0, 2), 10);
        Check.due("theirs", x.value(0, 0, 1, 2), 9);
    }

    private static void registerThereJustAtOurVector() {
        DotGossip x = new DotGossip();
        x.write(0, 0, 8);
        send(x, 0, 1, 1);
        x.write(1, 0, 9);
        send(x, 0, 1, 0);
        Check.due("the old value stays away", x.values(1, 0), 1);
        Check.due("ours", x.value(1, 0, 0, 2), 9);
    }

    private static void registerThereJustAboveOurVector() {
        DotGossip x = new DotGossip();
        x.write(0, 0, 8);
        send(x, 0, 1, 1);
        x.write(1, 0, 9);
        x.write(0, 0, 10);
        send(x, 0, 1, 1);
        Check.due("both were written at the same time", x.values(1, 0), 2);
        Check.due("theirs", x.value(1, 0, 0, 2), 10);
        Check.due("ours", x.value(1, 0, 1, 2), 9);
    }

    /** A third replica's dots are weighed by what was seen of that replica, not of the sender or receiver. */
    private static void vectorOfTheDotsOwnReplica() {
        DotGossip x = new DotGossip();
        x.open(3);
        x.add(2, 0, 1);
        send(x, 2, 0, 1);
        for (int k = 0; k < 5; k++) {
            x.add(0, 1, k);
            x.add(1, 2, k);
        }
        x.add(2, 0, 2);
        send(x, 2, 1, 2);
        x.remove(1, 0, 1);
        send(x, 0, 1, 5);
        Check.due("number 1 of replica 2 was seen", x.contains(1, 0, 1), false);
        Check.due("number 2 of replica 2 is not known there", x.contains(1, 0, 2), true);
        send(x, 1, 0, 6);
        Check.due("the removed one goes", x.contains(0, 0, 1), false);
        Check.due("the other comes", x.dot(0, 0, 2, 0, 0), 2);
        Check.due("same", x.same(0, 1), true);
    }

    /** Then the vector becomes the greater one for each replica. */
    private static void vectorBecomesTheGreaterForEach() {
        DotGossip x = new DotGossip();
        x.open(4);
        x.add(2, 0, 0);
        x.add(3, 0, 0);
        send(x, 2, 0, 1);
        send(x, 3, 1, 1);
        x.add(2, 0, 0);
        x.add(3, 0, 0);
        send(x, 2, 1, 1);
        send(x, 3, 0, 1);
        x.add(0, 1, 1);
        x.add(1, 1, 1);
        x.add(2, 0, 0);
        x.add(2, 0, 0);
        send(x, 2, 0, 1);
        int[] here = {1, 0, 4, 2};
        int[] there = {0, 1, 2, 1};
        for (int of = 0; of < 4; of++) {
            Check.due("here, before", x.vector(0, of), here[of]);
            Check.due("there, before", x.vector(1, of), there[of]);
        }
        send(x, 1, 0, 1);
        send(x, 0, 1, 3);
        int[] due = {1, 1, 4, 2};
        for (int of = 0; of < 4; of++) {
            Check.due("here", x.vector(0, of), due[of]);
            Check.due("there", x.vector(1, of), due[of]);
            Check.due("the third did not change", x.vector(2, of), of == 2 ? 4 : 0);
        }
    }

    /** Of counters the greater of both for each replica, added and taken each. */
    private static void countsBecomeTheGreaterForEach() {
        DotGossip x = new DotGossip();
        x.open(4);
        x.count(2, 0, 100);
        x.count(2, 0, -1);
        x.gossip(2, 0);
        x.count(2, 0, 100);
        x.count(2, 0, -1);
        x.gossip(2, 1);
        x.count(3, 0, 1000);
        x.count(3, 0, -10);
        x.gossip(3, 1);
        x.count(3, 0, 1000);
        x.count(3, 0, -10);
        x.gossip(3, 0);
        for (int k = 0; k < 4; k++) {
            Check.due("counts are no dots", x.deliver(0), 0);
        }
        Check.due("here, before", x.total(0, 0), 2079);
        Check.due("there, before", x.total(1, 0), 1188);
        send(x, 0, 1, 0);
        Check.due("there", x.total(1, 0), 2178);
        send(x, 1, 0, 0);
        Check.due("here", x.total(0, 0), 2178);
        Check.due("same", x.same(0, 1), true);
        send(x, 3, 1, 0);
        send(x, 2, 1, 0);
        Check.due("equal ones change nothing", x.total(1, 0), 2178);
    }

    /** Number 1 is above a vector that has 0. */
    private static void firstNumberOfAReplica() {
        for (int r = 0; r < 6; r++) {
            DotGossip x = new DotGossip();
            x.open(6);
            Check.due("add", x.add(r, 0, 0), 1);
            int other = (r + 1) % 6;
            send(x, other, r, 0);
            Check.due("it stays", x.contains(r, 0, 0), true);
            send(x, r, other, 1);
            Check.due("it comes", x.contains(other, 0, 0), true);
        }
    }

    /** Promise 12: a message may go to its sender; all in it was seen there. */
    private static void oldSelfBringsNothingBack() {
        DotGossip x = new DotGossip();
        x.add(0, 0, 1);
        x.add(0, 0, 2);
        x.write(0, 0, 5);
        x.count(0, 0, 3);
        x.gossip(0, 1);
        x.remove(0, 0, 1);
        x.add(0, 0, 3);
        x.write(0, 0, 6);
        x.count(0, 0, 4);
        x.turn(0, 0);
        Check.due("nothing comes", x.deliver(0), 0);
        Check.due("removed since", x.contains(0, 0, 1), false);
        Check.due("kept since", x.contains(0, 0, 2), true);
        Check.due("added since", x.contains(0, 0, 3), true);
        Check.due("written since", x.value(0, 0, 0, 2), 6);
        Check.due("and that alone", x.value(0, 0, 1, 0), NONE);
        Check.due("counted since", x.total(0, 0), 7);
        Check.due("vector", x.vector(0, 0), 5);
        Check.due("the next number", x.add(0, 0, 1), 6);
        Check.due("the first receiver has nothing", x.vector(1, 0), 0);
    }
}

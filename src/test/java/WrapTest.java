/** Promises 7, 9, 18 and 20: counters beyond what 32 bits hold. */
public final class WrapTest {
    private static final int LOW = Integer.MIN_VALUE;
    private static final int HIGH = Integer.MAX_VALUE;

    private WrapTest() {
    }

    public static void main(String[] args) {
        lastValueUpwards();
        firstValueBeyondUpwards();
        lastValueDownwards();
        firstValueBeyondDownwards();
        lowestNumberTaken();
        wholeTurnUp();
        wholeTurnDown();
        sumOfAllReplicas();
        addedAndTakenBoth();
        asMuchAsCallsAllow();
        greaterAddedIsNotTheGreaterLowBits();
        greaterTakenIsNotTheGreaterLowBits();
        sameLooksBeyondTheLowBits();
        valuesOfRegistersAreWhole();
        Check.end();
    }

    private static void counted(String what, int due, int... by) {
        for (int c = 0; c < 4; c++) {
            DotGossip x = new DotGossip();
            int last = 0;
            for (int much : by) {
                last = x.count(1, c, much);
            }
            Check.due(what + ": count", last, due);
            Check.due(what + ": total", x.total(1, c), due);
            x.gossip(1, 0);
            x.deliver(0);
            Check.due(what + ": total elsewhere", x.total(0, c), due);
            Check.due(what + ": the next counter", x.total(1, (c + 1) % 4), 0);
        }
    }

    private static void lastValueUpwards() {
        counted("to the greatest", HIGH, HIGH);
        counted("to the greatest by steps", HIGH, HIGH - 1, 1);
    }

    private static void firstValueBeyondUpwards() {
        counted("one beyond", LOW, HIGH, 1);
        counted("two beyond", LOW + 1, HIGH, 2);
        counted("there and back", HIGH, HIGH, 1, -1);
    }

    private static void lastValueDownwards() {
        counted("to the least", LOW, -HIGH, -1);
        counted("almost to the least", -HIGH, -HIGH);
    }

    private static void firstValueBeyondDownwards() {
        counted("one beyond", HIGH, -HIGH, -2);
        counted("there and back", LOW, -HIGH, -2, 1);
    }

    /** The lowest int is taken, though no int is as much. */
    private static void lowestNumberTaken() {
        counted("the lowest", LOW, LOW);
        counted("the lowest and one", HIGH, LOW, -1);
        counted("the lowest, one back", LOW + 1, LOW, 1);
        counted("the lowest and the greatest", -1, LOW, HIGH);
        DotGossip x = new DotGossip();
        x.count(0, 0, LOW);
        x.gossip(0, 1);
        x.count(0, 0, -1);
        x.deliver(0);
        x.gossip(0, 1);
        x.deliver(0);
        Check.due("more was taken than the lowest", x.total(1, 0), HIGH);
    }

    private static void wholeTurnUp() {
        counted("2^32 added", 0, HIGH, HIGH, 2);
        counted("2^32 and 5 added", 5, HIGH, HIGH, 7);
    }

    private static void wholeTurnDown() {
        counted("2^32 taken", 0, LOW, LOW);
        counted("2^32 and 5 taken", -5, LOW, LOW, -5);
    }

    private static void sumOfAllReplicas() {
        for (int by : new int[] {HIGH, LOW, HIGH - 3, 1 << 30}) {
            DotGossip x = new DotGossip();
            x.open(6);
            for (int r = 0; r < 6; r++) {
                x.count(r, 2, by);
            }
            long sum = by;
            for (int r = 1; r < 6; r++) {
                x.gossip(r, 0);
                x.deliver(0);
                sum += by;
                Check.due("the sum of " + (r + 1), x.total(0, 2), (int) sum);
            }
            Check.due("count on all", x.count(0, 2, 1), (int) (sum + 1));
        }
    }

    private static void addedAndTakenBoth() {
        counted("both a whole turn", 3, HIGH, LOW, HIGH, LOW, 5);
        DotGossip x = new DotGossip();
        x.count(0, 1, HIGH);
        x.count(1, 1, LOW);
        x.gossip(0, 1);
        x.deliver(0);
        Check.due("one added, the other taken", x.total(1, 1), -1);
    }

    private static void asMuchAsCallsAllow() {
        for (int by : new int[] {HIGH, LOW}) {
            DotGossip x = new DotGossip();
            long sum = 0;
            for (int k = 0; k < 512; k++) {
                sum += by;
                Check.due("count " + k, x.count(0, 3, by), (int) sum);
            }
        }
    }

    /** Of counters the greater of both: all of it, not its lowest 32 bits. */
    private static void greaterAddedIsNotTheGreaterLowBits() {
        laterStays("2^31", HIGH, 1);
        laterStays("2^32 - 2", HIGH, HIGH);
        laterStays("2^32", HIGH, HIGH, 2);
        laterStays("2^32 + 2^31", HIGH, HIGH, HIGH, 3);
    }

    private static void greaterTakenIsNotTheGreaterLowBits() {
        laterStays("-2^31", LOW + 1, -1);
        laterStays("-2^31 at once", -1, LOW);
        laterStays("-2^32", LOW, LOW);
        laterStays("-2^32 - 2^31", LOW, LOW, LOW);
    }

    /** Each later state is the greater one, whether it is here or in the message. */
    private static void laterStays(String what, int... by) {
        DotGossip x = new DotGossip();
        int sum = 0;
        for (int much : by) {
            sum = x.count(0, 0, much);
            x.gossip(0, 1);
        }
        int last = by.length - 1;
        for (int k = 0; k < last; k++) {
            x.deliver(0);
        }
        x.copy(0);
        x.deliver(0);
        Check.due(what + ": each came after the other", x.total(1, 0), sum);
        Check.due(what + ": all is known", x.same(0, 1), true);
        DotGossip y = new DotGossip();
        for (int much : by) {
            y.count(0, 0, much);
            y.gossip(0, 1);
        }
        for (int k = last; k >= 0; k--) {
            y.deliver(k);
            Check.due(what + ": the last came first", y.total(1, 0), sum);
            Check.due(what + ": all was known", y.same(0, 1), true);
        }
    }

    private static void sameLooksBeyondTheLowBits() {
        for (int[] turn : new int[][] {{HIGH, HIGH, 2}, {LOW, LOW}, {7, -7}, {HIGH, -HIGH}}) {
            DotGossip x = new DotGossip();
            for (int by : turn) {
                x.count(1, 0, by);
            }
            Check.due("its value", x.total(1, 0), x.total(0, 0));
            Check.due("yet not the same", x.same(0, 1), false);
            Check.due("nor the other way round", x.same(1, 0), false);
        }
    }

    /** Promises 6 and 16: every int can be written and is told as it was. */
    private static void valuesOfRegistersAreWhole() {
        for (int value : new int[] {LOW, LOW + 1, -2, -1, 0, 1, HIGH - 1, HIGH}) {
            DotGossip x = new DotGossip();
            x.write(0, 3, value);
            Check.due("here", x.value(0, 3, 0, 2), value);
            x.gossip(0, 1);
            x.deliver(0);
            Check.due("there", x.value(1, 3, 0, 2), value);
        }
    }
}

/**
 * The last number that is allowed and the first that is not, on both sides, for each argument of
 * each call. What is refused is also checked to change nothing.
 */
public final class LimitTest {
    /** A call whose one argument is looked at. */
    private interface Call {
        void on(DotGossip x, int number);
    }

    private static final int LOW = Integer.MIN_VALUE;
    private static final int HIGH = Integer.MAX_VALUE;

    private LimitTest() {
    }

    public static void main(String[] args) {
        promise2open();
        promise3add();
        promise4remove();
        promise5clear();
        promise6write();
        promise7count();
        promise8gossip();
        promise9deliver();
        promise10drop();
        promise11copy();
        promise12turn();
        promise13contains();
        promise14size();
        promise15dot();
        promise16value();
        promise17values();
        promise18total();
        promise19vector();
        promise20same();
        promise21message();
        Check.end();
    }

    private static void promise2open() {
        range("open", some(3), 2, 6, (x, n) -> x.open(n));
        range("open of a new object", x -> { }, 2, 6, (x, n) -> x.open(n));
    }

    private static void promise3add() {
        replicas("add", (x, r) -> x.add(r, 1, 5));
        sets("add", (x, s) -> x.add(1, s, 5));
        elements("add", (x, e) -> x.add(1, 1, e));
    }

    private static void promise4remove() {
        replicas("remove", (x, r) -> x.remove(r, 1, 5));
        sets("remove", (x, s) -> x.remove(1, s, 5));
        elements("remove", (x, e) -> x.remove(1, 1, e));
    }

    private static void promise5clear() {
        replicas("clear", (x, r) -> x.clear(r, 1));
        sets("clear", (x, s) -> x.clear(1, s));
    }

    private static void promise6write() {
        replicas("write", (x, r) -> x.write(r, 1, 7));
        registers("write", (x, g) -> x.write(1, g, 7));
        anyNumber("write: value", (x, v) -> x.write(1, 1, v));
    }

    private static void promise7count() {
        replicas("count", (x, r) -> x.count(r, 1, 7));
        counters("count", (x, c) -> x.count(1, c, 7));
        replicas("count below 0", (x, r) -> x.count(r, 1, -7));
        counters("count below 0", (x, c) -> x.count(1, c, -7));
        replicas("count nothing", (x, r) -> x.count(r, 1, 0));
        counters("count nothing", (x, c) -> x.count(1, c, 0));
        anyNumber("count: by", (x, by) -> x.count(1, 1, by));
    }

    private static void promise8gossip() {
        // The other replica is one that is there and not the same, wherever the number is allowed.
        replicas("gossip from", (x, r) -> x.gossip(r, r == 0 ? 1 : 0));
        replicas("gossip to", (x, r) -> x.gossip(r == 0 ? 1 : 0, r));
        for (int n = 2; n <= 6; n++) {
            for (int from = 0; from < n; from++) {
                for (int to = 0; to < n; to++) {
                    gossipBetween(n, from, to);
                }
            }
        }
    }

    /** IllegalArgumentException: also if both are the same. */
    private static void gossipBetween(int n, int from, int to) {
        String call = "gossip(" + from + ", " + to + ") of " + n;
        if (from == to) {
            Check.illegal(call, some(n), x -> x.gossip(from, to));
        } else {
            Check.allowed(call, some(n), x -> x.gossip(from, to));
        }
    }

    private static void promise9deliver() {
        messages("deliver", DotGossip::deliver);
    }

    private static void promise10drop() {
        messages("drop", DotGossip::drop);
    }

    private static void promise11copy() {
        messages("copy", DotGossip::copy);
    }

    private static void promise12turn() {
        messages("turn", (x, i) -> x.turn(i, 1));
        replicas("turn to", (x, r) -> x.turn(0, r));
    }

    private static void promise13contains() {
        replicas("contains", (x, r) -> x.contains(r, 1, 5));
        sets("contains", (x, s) -> x.contains(1, s, 5));
        elements("contains", (x, e) -> x.contains(1, 1, e));
    }

    private static void promise14size() {
        replicas("size", (x, r) -> x.size(r, 1));
        sets("size", (x, s) -> x.size(1, s));
    }

    private static void promise15dot() {
        for (int w = 0; w <= 1; w++) {
            int what = w;
            replicas("dot", (x, r) -> x.dot(r, 1, 5, 0, what));
            sets("dot", (x, s) -> x.dot(1, s, 5, 0, what));
            elements("dot", (x, e) -> x.dot(1, 1, e, 0, what));
        }
        // Whether there is such a dot or none, a wrong what is refused.
        for (int i : new int[] {0, 1, -1, 6}) {
            range("dot " + i + ": what", some(3), 0, 1, (x, what) -> x.dot(1, 1, 14, i, what));
            range("dot " + i + " of none: what", some(3), 0, 1, (x, what) -> x.dot(1, 3, 3, i, what));
        }
        anyNumber("dot: i", (x, i) -> x.dot(1, 1, 14, i, 0));
    }

    private static void promise16value() {
        for (int w = 0; w <= 2; w++) {
            int what = w;
            replicas("value", (x, r) -> x.value(r, 1, 0, what));
            registers("value", (x, g) -> x.value(1, g, 0, what));
        }
        for (int i : new int[] {0, 1, -1, 6}) {
            range("value " + i + ": what", some(3), 0, 2, (x, what) -> x.value(1, 2, i, what));
            range("value " + i + " of none: what", some(3), 0, 2, (x, what) -> x.value(1, 0, i, what));
        }
        anyNumber("value: i", (x, i) -> x.value(1, 2, i, 0));
    }

    private static void promise17values() {
        replicas("values", (x, r) -> x.values(r, 1));
        registers("values", (x, g) -> x.values(1, g));
    }

    private static void promise18total() {
        replicas("total", (x, r) -> x.total(r, 1));
        counters("total", (x, c) -> x.total(1, c));
    }

    private static void promise19vector() {
        replicas("vector", (x, r) -> x.vector(r, 1));
        replicas("vector of", (x, r) -> x.vector(1, r));
        replicas("vector of itself", (x, r) -> x.vector(r, r));
    }

    private static void promise20same() {
        replicas("same", (x, r) -> x.same(r, 1));
        replicas("same as", (x, r) -> x.same(1, r));
        replicas("same as itself", (x, r) -> x.same(r, r));
    }

    private static void promise21message() {
        for (int w = 0; w <= 3; w++) {
            int what = w;
            messages("message, what " + what, (x, i) -> x.message(i, what));
        }
        for (int n = 2; n <= 6; n++) {
            range("message of " + n + ": what", some(n), -2, n + 1, (x, what) -> x.message(0, what));
            range("no message of " + n + ": what", row(n, 0), -2, -1, (x, what) -> x.message(0, what));
        }
        anyNumber("message: i for replicas", (x, i) -> x.message(i, DotGossip.NONE));
        anyNumber("message: i for messages", (x, i) -> x.message(i, -2));
    }

    /** REPLICAS are 0 .. n - 1, n 2 to 6: in a new object, an opened one, and one that had others. */
    private static void replicas(String call, Call of) {
        String what = call + ": replica";
        range(what + " of a new object", x -> fill(x, 2), 0, 1, of);
        for (int n = 2; n <= 6; n++) {
            int many = n;
            range(what + " of " + n, some(n), 0, n - 1, of);
            range(what + " of " + n + " after 6", x -> {
                some(6).on(x);
                some(many).on(x);
            }, 0, n - 1, of);
            range(what + " of " + n + " after 2", x -> {
                some(2).on(x);
                some(many).on(x);
            }, 0, n - 1, of);
        }
    }

    /** Each has four SETS 0 .. 3. */
    private static void sets(String call, Call of) {
        range(call + ": set", some(3), 0, 3, of);
    }

    /** Elements 0 .. 15. */
    private static void elements(String call, Call of) {
        range(call + ": element", some(3), 0, 15, of);
    }

    /** Four REGISTERS 0 .. 3. */
    private static void registers(String call, Call of) {
        range(call + ": register", some(3), 0, 3, of);
    }

    /** Four COUNTERS 0 .. 3. */
    private static void counters(String call, Call of) {
        range(call + ": counter", some(3), 0, 3, of);
    }

    /** MESSAGES lie in a row, up to 100: the first is 0, and there is none behind the last. */
    private static void messages(String call, Call of) {
        for (int many : new int[] {0, 1, 2, 15, 16, 50, 99, 100}) {
            range(call + ": message of " + many, row(2, many), 0, many - 1, of);
        }
    }

    private static void anyNumber(String call, Call of) {
        for (int number : new int[] {LOW, LOW + 1, -2, -1, 0, 1, 2, HIGH - 1, HIGH}) {
            Check.allowed(call + " " + number, some(2), x -> of.on(x, number));
        }
    }

    private static void range(String what, Check.Run before, int first, int last, Call of) {
        for (int k = first; k <= last; k++) {
            int number = k;
            Check.allowed(what + " " + number, before, x -> of.on(x, number));
        }
        for (int number : new int[] {first - 1, first - 2, last + 1, last + 2, LOW, LOW + 1, HIGH - 1, HIGH}) {
            Check.illegal(what + " " + number, before, x -> of.on(x, number));
        }
    }

    private static Check.Run some(int n) {
        return x -> {
            x.open(n);
            fill(x, n);
        };
    }

    /** Each replica has elements, values and counts, some of them of others; a message is under way. */
    private static void fill(DotGossip x, int n) {
        for (int r = 0; r < n; r++) {
            x.add(r, r % 4, 15 - r);
            x.write(r, (r + 1) % 4, 10 + r);
            x.count(r, r % 4, 5);
            x.count(r, r % 4, -r);
        }
        x.gossip(n - 1, 0);
        x.deliver(0);
        x.gossip(0, n - 1);
    }

    private static Check.Run row(int n, int many) {
        return x -> {
            x.open(n);
            x.add(0, 2, 2);
            for (int k = 0; k < many; k++) {
                x.gossip(k % n, (k + 1) % n);
            }
        };
    }
}

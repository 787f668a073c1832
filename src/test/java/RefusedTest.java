import java.util.ArrayList;
import java.util.Arrays;
import java.util.List;

/**
 * A call that throws changes nothing: put into a run at any place, it leaves every later answer as
 * it is without it. Each refused call of each promise is tried.
 */
public final class RefusedTest {
    private static final int LOW = Integer.MIN_VALUE;
    private static final int HIGH = Integer.MAX_VALUE;
    private static final int[] NO_REPLICA = {-1, 3, 6, LOW, HIGH};
    private static final int[] NO_FOURTH = {-1, 4, LOW, HIGH};
    private static final int[] NO_ELEMENT = {-1, 16, LOW, HIGH};

    private static final List<Check.Question> RUN = run();
    private static final List<Check.Question> FULL_RUN = fullRun();

    private RefusedTest() {
    }

    public static void main(String[] args) {
        promise2open();
        promise3add();
        promise4remove();
        promise5clear();
        promise6write();
        promise7count();
        promise8gossip();
        promise8gossipWithoutRoom();
        promise9deliver();
        promise10drop();
        promise11copy();
        promise12turn();
        promise13contains();
        promise14size();
        promise15dot();
        promise16value();
        promise17values();
        promise18total();
        promise19vector();
        promise20same();
        promise21message();
        Check.end();
    }

    private static void promise2open() {
        for (int n : new int[] {1, 7, 0, -1, LOW, HIGH}) {
            refused("open(" + n + ")", x -> x.open(n));
        }
    }

    private static void promise3add() {
        for (int[] a : wrongElements()) {
            refused("add" + Arrays.toString(a), x -> x.add(a[0], a[1], a[2]));
        }
    }

    private static void promise4remove() {
        for (int[] a : wrongElements()) {
            refused("remove" + Arrays.toString(a), x -> x.remove(a[0], a[1], a[2]));
        }
    }

    private static void promise5clear() {
        for (int[] a : wrongFourths()) {
            refused("clear" + Arrays.toString(a), x -> x.clear(a[0], a[1]));
        }
    }

    private static void promise6write() {
        for (int[] a : wrongFourths()) {
            refused("write" + Arrays.toString(a), x -> x.write(a[0], a[1], 77));
        }
    }

    private static void promise7count() {
        for (int[] a : wrongFourths()) {
            refused("count up " + Arrays.toString(a), x -> x.count(a[0], a[1], 77));
            refused("count down " + Arrays.toString(a), x -> x.count(a[0], a[1], -77));
        }
    }

    private static void promise8gossip() {
        for (int[] a : wrongPairs()) {
            refused("gossip" + Arrays.toString(a), x -> x.gossip(a[0], a[1]));
        }
        for (int r = 0; r < 3; r++) {
            int both = r;
            refused("gossip to itself " + r, x -> x.gossip(both, both));
        }
    }

    private static void promise8gossipWithoutRoom() {
        for (int[] a : new int[][] {{0, 1}, {1, 2}, {2, 0}, {2, 1}}) {
            refused("gossip" + Arrays.toString(a), FULL_RUN, x -> x.gossip(a[0], a[1]), IllegalStateException.class);
        }
        refused("gossip to itself", FULL_RUN, x -> x.gossip(1, 1), IllegalArgumentException.class);
        refused("gossip to nobody", FULL_RUN, x -> x.gossip(1, 3), IllegalArgumentException.class);
    }

    private static void promise9deliver() {
        refused("deliver before the first", x -> x.deliver(-1));
        refused("deliver behind the last", x -> x.deliver(x.message(0, -2)));
        refused("deliver low", x -> x.deliver(LOW));
        refused("deliver high", x -> x.deliver(HIGH));
    }

    private static void promise10drop() {
        refused("drop before the first", x -> x.drop(-1));
        refused("drop behind the last", x -> x.drop(x.message(0, -2)));
        refused("drop low", x -> x.drop(LOW));
        refused("drop high", x -> x.drop(HIGH));
    }

    private static void promise11copy() {
        refused("copy before the first", x -> x.copy(-1));
        refused("copy behind the last", x -> x.copy(x.message(0, -2)));
        refused("copy low", x -> x.copy(LOW));
        refused("copy high", x -> x.copy(HIGH));
        refused("copy behind the last of 100", FULL_RUN, x -> x.copy(100), IllegalArgumentException.class);
    }

    private static void promise12turn() {
        refused("turn before the first", x -> x.turn(-1, 0));
        refused("turn behind the last", x -> x.turn(x.message(0, -2), 0));
        refused("turn low", x -> x.turn(LOW, 0));
        refused("turn high", x -> x.turn(HIGH, 0));
        for (int to : NO_REPLICA) {
            refused("turn the first to " + to, x -> x.turn(0, to));
            refused("turn the last to " + to, x -> x.turn(x.message(0, -2) - 1, to));
            refused("turn none to " + to, x -> x.turn(100, to));
        }
    }

    private static void promise13contains() {
        for (int[] a : wrongElements()) {
            refused("contains" + Arrays.toString(a), x -> x.contains(a[0], a[1], a[2]));
        }
    }

    private static void promise14size() {
        for (int[] a : wrongFourths()) {
            refused("size" + Arrays.toString(a), x -> x.size(a[0], a[1]));
        }
    }

    private static void promise15dot() {
        for (int[] a : wrongElements()) {
            refused("dot" + Arrays.toString(a), x -> x.dot(a[0], a[1], a[2], 0, 0));
        }
        for (int what : new int[] {-1, 2, LOW, HIGH}) {
            refused("dot, what " + what, x -> x.dot(0, 0, 1, 0, what));
            refused("no dot, what " + what, x -> x.dot(0, 0, 1, 9, what));
        }
    }

    private static void promise16value() {
        for (int[] a : wrongFourths()) {
            refused("value" + Arrays.toString(a), x -> x.value(a[0], a[1], 0, 0));
        }
        for (int what : new int[] {-1, 3, LOW, HIGH}) {
            refused("value, what " + what, x -> x.value(0, 0, 0, what));
            refused("no value, what " + what, x -> x.value(0, 0, 9, what));
        }
    }

    private static void promise17values() {
        for (int[] a : wrongFourths()) {
            refused("values" + Arrays.toString(a), x -> x.values(a[0], a[1]));
        }
    }

    private static void promise18total() {
        for (int[] a : wrongFourths()) {
            refused("total" + Arrays.toString(a), x -> x.total(a[0], a[1]));
        }
    }

    private static void promise19vector() {
        for (int[] a : wrongPairs()) {
            refused("vector" + Arrays.toString(a), x -> x.vector(a[0], a[1]));
        }
    }

    private static void promise20same() {
        for (int[] a : wrongPairs()) {
            refused("same" + Arrays.toString(a), x -> x.same(a[0], a[1]));
        }
    }

    private static void promise21message() {
        for (int w = 0; w <= 4; w++) {
            int what = w;
            refused("message before the first, what " + what, x -> x.message(-1, what));
            refused("message behind the last, what " + what, x -> x.message(x.message(0, -2), what));
        }
        for (int what : new int[] {-3, 5, 6, 7, 8, LOW, LOW + 1, HIGH}) {
            refused("message, what " + what, x -> x.message(0, what));
            refused("no message, what " + what, x -> x.message(100, what));
        }
    }

    private static List<int[]> wrongPairs() {
        List<int[]> wrong = new ArrayList<>();
        for (int r : NO_REPLICA) {
            wrong.add(new int[] {r, 0});
            wrong.add(new int[] {0, r});
            wrong.add(new int[] {r, r});
        }
        return wrong;
    }

    /** A replica and its set, register or counter. */
    private static List<int[]> wrongFourths() {
        List<int[]> wrong = new ArrayList<>();
        for (int r : NO_REPLICA) {
            wrong.add(new int[] {r, 0});
        }
        for (int k : NO_FOURTH) {
            wrong.add(new int[] {0, k});
        }
        wrong.add(new int[] {-1, 4});
        return wrong;
    }

    private static List<int[]> wrongElements() {
        List<int[]> wrong = new ArrayList<>();
        for (int[] two : wrongFourths()) {
            wrong.add(new int[] {two[0], two[1], 1});
        }
        for (int e : NO_ELEMENT) {
            wrong.add(new int[] {0, 0, e});
            wrong.add(new int[] {2, 3, e});
        }
        wrong.add(new int[] {3, -1, 16});
        return wrong;
    }

    private static void refused(String call, Check.Run wrong) {
        refused(call, RUN, wrong, IllegalArgumentException.class);
    }

    private static void refused(String call, List<Check.Question> run, Check.Run wrong, Class<?> due) {
        List<Long> plain = answers(run, -1, call, wrong, due);
        for (int place = 1; place < run.size(); place++) {
            List<Long> got = answers(run, place, call, wrong, due);
            Check.due(call + " before call " + place + ": later answers are as before", got.equals(plain), true);
        }
    }

    /** What a run answers, with the wrong call in it behind so many calls. */
    private static List<Long> answers(List<Check.Question> run, int place, String call, Check.Run wrong, Class<?> due) {
        DotGossip x = new DotGossip();
        List<Long> answers = new ArrayList<>();
        for (int k = 0; k < run.size(); k++) {
            if (k == place) {
                Check.due(call + " before call " + place + " throws " + due, thrown(wrong, x) == due, true);
            }
            answers.add(run.get(k).ask(x));
        }
        return answers;
    }

    private static Class<?> thrown(Check.Run wrong, DotGossip x) {
        try {
            wrong.on(x);
        } catch (RuntimeException e) {
            return e.getClass();
        }
        return null;
    }

    /** Three replicas that change and gossip, with looks at all that changed, and never 100 messages. */
    private static List<Check.Question> run() {
        List<Check.Question> run = new ArrayList<>();
        run.add(x -> {
            x.open(3);
            return 0;
        });
        for (int k = 0; k < 3; k++) {
            int r = k;
            int next = (k + 1) % 3;
            run.add(x -> x.add(r, 0, 1));
            run.add(x -> x.add(r, 3, 15 - r));
            run.add(x -> x.write(r, 0, r + 5));
            run.add(x -> x.count(r, 0, 4));
            run.add(x -> x.count(r, 3, -r - 1));
            run.add(x -> x.gossip(r, next));
            run.add(x -> x.copy(0) ? 1 : 0);
        }
        run.add(x -> {
            x.turn(1, 2);
            return 0;
        });
        run.add(x -> x.drop(2));
        run.add(x -> x.deliver(1));
        run.add(x -> x.remove(2, 3, 15));
        run.add(x -> x.clear(1, 3));
        run.add(x -> x.deliver(0));
        run.add(x -> x.gossip(2, 0));
        looks(run);
        run.add(x -> x.deliver(0));
        run.add(x -> x.deliver(2));
        run.add(x -> x.add(0, 0, 1));
        looks(run);
        return run;
    }

    private static void looks(List<Check.Question> run) {
        for (int k = 0; k < 3; k++) {
            int r = k;
            int next = (k + 1) % 3;
            run.add(x -> x.size(r, 0));
            run.add(x -> x.size(r, 3));
            run.add(x -> x.contains(r, 3, 15) ? 1 : 0);
            run.add(x -> x.values(r, 0));
            run.add(x -> x.total(r, 0));
            run.add(x -> x.total(r, 3));
            run.add(x -> x.vector(r, r));
            run.add(x -> x.vector(r, next));
            run.add(x -> x.same(r, next) ? 1 : 0);
            run.add(x -> x.dot(0, 0, 1, r, 1));
            run.add(x -> x.value(0, 0, r, 2));
            run.add(x -> x.message(0, r));
            run.add(x -> x.message(1, r));
        }
        run.add(x -> x.message(0, DotGossip.NONE));
        run.add(x -> x.message(0, -2));
    }

    /** A run whose row of messages is full from its first answer on. */
    private static List<Check.Question> fullRun() {
        List<Check.Question> run = new ArrayList<>();
        run.add(x -> {
            x.open(3);
            x.add(0, 0, 1);
            x.write(1, 0, 5);
            for (int k = 0; k < 99; k++) {
                x.gossip(k % 3, (k + 1) % 3);
            }
            return x.gossip(2, 0);
        });
        run.add(x -> x.copy(99) ? 1 : 0);
        looks(run);
        run.add(x -> {
            x.turn(99, 1);
            return 0;
        });
        run.add(x -> x.add(2, 0, 1));
        run.add(x -> x.message(99, 1));
        looks(run);
        return run;
    }
}

import java.util.ArrayList;
import java.util.Arrays;
import java.util.LinkedHashMap;
import java.util.List;
import java.util.Map;

/**
 * Each call changes what the document says, and nothing else that can be seen: the state before and
 * after it is put side by side, with what each message in the row would bring.
 */
public final class ChangeTest {
    private static final int NONE = DotGossip.NONE;
    private static final int REPLICAS = 4;
    // It never has anything itself, so that what a message brings there is all that the message has.
    private static final int READER = 3;
    // More than can be, so that a program without an end to its dots is told, too.
    private static final int MOST_DOTS = 9;

    private ChangeTest() {
    }

    public static void main(String[] args) {
        picture();
        promise2open();
        promise3add();
        promise4remove();
        promise5clear();
        promise6write();
        promise7count();
        promise8gossip();
        promise9deliver();
        promise10drop();
        promise11copy();
        promise12turn();
        eachPlaceChangesAlone();
        eachMessageGoesAlone();
        looksChangeNothing();
        Check.end();
    }

    /** Replica 2 has all that 0 has and 0 all that 1 has, but for what changed since. */
    private static void base(DotGossip x) {
        x.open(REPLICAS);
        x.add(0, 0, 1);
        x.add(1, 0, 1);
        x.write(0, 2, 70);
        x.write(1, 2, 71);
        x.count(0, 3, 10);
        x.count(1, 3, -4);
        x.add(0, 0, 2);
        x.add(0, 1, 1);
        x.gossip(1, 0);
        x.deliver(0);
        x.gossip(0, 2);
        x.deliver(0);
        x.remove(2, 0, 2);
        x.add(2, 0, 9);
        x.gossip(2, 1);
        x.gossip(0, 1);
        x.gossip(1, 2);
    }

    /** What the other tests start from. */
    private static void picture() {
        same("before", difference(Map.of(), shown(ChangeTest::base)),
                "replica 0, set 0: null, now 1(0.1 1.1) 2(0.3)",
                "replica 0, set 1: null, now 1(0.4)",
                "replica 0, register 2: null, now 0.2=70 1.2=71",
                "replica 0, counter 3: null, now 6",
                "replica 0, vector: null, now [4, 2, 0, 0]",
                "replica 1, set 0: null, now 1(1.1)",
                "replica 1, register 2: null, now 1.2=71",
                "replica 1, counter 3: null, now -4",
                "replica 1, vector: null, now [0, 2, 0, 0]",
                "replica 2, set 0: null, now 1(0.1 1.1) 9(2.1)",
                "replica 2, set 1: null, now 1(0.4)",
                "replica 2, register 2: null, now 0.2=70 1.2=71",
                "replica 2, counter 3: null, now 6",
                "replica 2, vector: null, now [4, 2, 1, 0]",
                "replica 3, vector: null, now [0, 0, 0, 0]",
                "replicas: null, now 4",
                "message 0: null, now from 2 to 1, [4, 2, 1, 0], set 0 1(0.1 1.1) 9(2.1), set 1 1(0.4), "
                        + "register 2 0.2=70 1.2=71, counter 3 6",
                "message 1: null, now from 0 to 1, [4, 2, 0, 0], set 0 1(0.1 1.1) 2(0.3), set 1 1(0.4), "
                        + "register 2 0.2=70 1.2=71, counter 3 6",
                "message 2: null, now from 1 to 2, [0, 2, 0, 0], set 0 1(1.1), "
                        + "register 2 1.2=71, counter 3 -4");
    }

    private static void promise2open() {
        Map<String, String> opened = shown(x -> {
            base(x);
            x.open(4);
        });
        same("open", difference(Map.of(), opened),
                "replica 0, vector: null, now [0, 0, 0, 0]",
                "replica 1, vector: null, now [0, 0, 0, 0]",
                "replica 2, vector: null, now [0, 0, 0, 0]",
                "replica 3, vector: null, now [0, 0, 0, 0]",
                "replicas: null, now 4");
    }

    private static void promise3add() {
        changes("add of an element that is in", x -> x.add(0, 0, 1),
                "replica 0, set 0: 1(0.1 1.1) 2(0.3), now 1(0.5) 2(0.3)",
                "replica 0, vector: [4, 2, 0, 0], now [5, 2, 0, 0]");
        changes("add of another", x -> x.add(1, 3, 15),
                "replica 1, vector: [0, 2, 0, 0], now [0, 3, 0, 0]",
                "replica 1, set 3: null, now 15(1.3)");
    }

    private static void promise4remove() {
        changes("remove", x -> x.remove(0, 0, 1),
                "replica 0, set 0: 1(0.1 1.1) 2(0.3), now 2(0.3)");
        changes("remove of the last in a set", x -> x.remove(2, 1, 1),
                "replica 2, set 1: 1(0.4), now null");
        changes("remove of none", x -> x.remove(2, 0, 2));
    }

    private static void promise5clear() {
        changes("clear", x -> x.clear(0, 0),
                "replica 0, set 0: 1(0.1 1.1) 2(0.3), now null");
        changes("clear of an empty set", x -> x.clear(0, 2));
    }

    private static void promise6write() {
        changes("write over two", x -> x.write(0, 2, 99),
                "replica 0, register 2: 0.2=70 1.2=71, now 0.5=99",
                "replica 0, vector: [4, 2, 0, 0], now [5, 2, 0, 0]");
        changes("write of the same", x -> x.write(1, 2, 71),
                "replica 1, register 2: 1.2=71, now 1.3=71",
                "replica 1, vector: [0, 2, 0, 0], now [0, 3, 0, 0]");
        changes("write to another", x -> x.write(2, 0, 0),
                "replica 2, vector: [4, 2, 1, 0], now [4, 2, 2, 0]",
                "replica 2, register 0: null, now 2.2=0");
    }

    private static void promise7count() {
        changes("count up", x -> x.count(0, 3, 5), "replica 0, counter 3: 6, now 11");
        changes("count down", x -> x.count(1, 3, -5), "replica 1, counter 3: -4, now -9");
        changes("count another", x -> x.count(2, 0, 1), "replica 2, counter 0: null, now 1");
        changes("count nothing", x -> x.count(2, 0, 0));
    }

    private static void promise8gossip() {
        changes("gossip", x -> x.gossip(1, 0),
                "message 3: null, now from 1 to 0, [0, 2, 0, 0], set 0 1(1.1), "
                        + "register 2 1.2=71, counter 3 -4");
        changes("gossip of nothing", x -> x.gossip(READER, 0),
                "message 3: null, now from 3 to 0, [0, 0, 0, 0]");
    }

    private static void promise9deliver() {
        Check.Run without = x -> {
            base(x);
            x.drop(0);
        };
        changes("deliver of more than it has", without, x -> {
            base(x);
            x.deliver(0);
        },
                "replica 1, set 0: 1(1.1), now 1(0.1 1.1) 9(2.1)",
                "replica 1, register 2: 1.2=71, now 0.2=70 1.2=71",
                "replica 1, counter 3: -4, now 6",
                "replica 1, vector: [0, 2, 0, 0], now [4, 2, 1, 0]",
                "replica 1, set 1: null, now 1(0.4)");
        changes("deliver of less than it has", without, x -> {
            base(x);
            x.copy(2);
            x.deliver(3);
            x.drop(0);
        });
        changes("deliver of what takes a dot away", without, x -> {
            base(x);
            x.turn(0, 0);
            x.deliver(0);
        },
                "replica 0, set 0: 1(0.1 1.1) 2(0.3), now 1(0.1 1.1) 9(2.1)",
                "replica 0, vector: [4, 2, 0, 0], now [4, 2, 1, 0]");
    }

    private static void promise10drop() {
        Map<String, String> before = shown(ChangeTest::base);
        String second = before.get("message 1");
        String third = before.get("message 2");
        changes("drop", x -> x.drop(0),
                "message 0: " + before.get("message 0") + ", now " + second,
                "message 1: " + second + ", now " + third,
                "message 2: " + third + ", now null");
        changes("drop of the last", x -> x.drop(2), "message 2: " + third + ", now null");
    }

    private static void promise11copy() {
        Map<String, String> before = shown(ChangeTest::base);
        for (int k = 0; k < 3; k++) {
            int i = k;
            changes("copy " + i, x -> x.copy(i), "message 3: null, now " + before.get("message " + i));
        }
    }

    private static void promise12turn() {
        Map<String, String> before = shown(ChangeTest::base);
        String second = before.get("message 1");
        for (int k : new int[] {0, 2, 3}) {
            int to = k;
            changes("turn to " + to, x -> x.turn(1, to),
                    "message 1: " + second + ", now " + second.replace("to 1", "to " + to));
        }
        changes("turn to whom it goes", x -> x.turn(1, 1));
    }

    /** Promises 3 to 7: a change shows where it was made, wherever that is, and nowhere else. */
    private static void eachPlaceChangesAlone() {
        for (int k = 0; k < READER * 4; k++) {
            int r = k / 4;
            int which = k % 4;
            String of = "replica " + r + ", ";
            for (int e : new int[] {0, 7, 8, 15}) {
                changesOnly("add", x -> x.add(r, which, e), of + "set " + which, of + "vector");
            }
            for (int e : new int[] {0, 8, 15}) {
                changesOnly("remove", x -> x.remove(r, which, e), of + "set " + which);
            }
            changesOnly("clear", x -> x.clear(r, which), of + "set " + which);
            changesOnly("write", x -> x.write(r, which, 5), of + "register " + which, of + "vector");
            changesOnly("count up", x -> x.count(r, which, 5), of + "counter " + which);
            changesOnly("count down", x -> x.count(r, which, -5), of + "counter " + which);
        }
    }

    /** Promises 8 to 12: what happens to a message shows there and, delivered, at its receiver. */
    private static void eachMessageGoesAlone() {
        int[] to = {1, 2, 2, 0, 0, 1};
        for (int k = 0; k < to.length; k++) {
            int i = k;
            changesOnly("turn " + i, x -> x.turn(i, READER), "message " + i);
            changesOnly("copy " + i, x -> x.copy(i), "message " + to.length);
            Map<String, String> without = shown(x -> {
                crowd(x);
                x.drop(i);
            });
            same("drop " + i, difference(allButMessage(i, to.length), without));
            Map<String, String> delivered = shown(x -> {
                crowd(x);
                x.deliver(i);
            });
            nothingBeside("deliver " + i, difference(without, delivered), "replica " + to[i] + ", ");
        }
        for (int k = 0; k < READER * READER; k++) {
            int from = k / READER;
            int other = k % READER;
            if (from != other) {
                changesOnly("gossip", x -> x.gossip(from, other), "message " + to.length);
            }
        }
    }

    /** The crowd with the messages behind message i moved up by one. */
    private static Map<String, String> allButMessage(int i, int messages) {
        Map<String, String> all = shown(ChangeTest::crowd);
        for (int k = i; k < messages - 1; k++) {
            all.put("message " + k, all.get("message " + (k + 1)));
        }
        all.remove("message " + (messages - 1));
        return all;
    }

    /** At all replicas but the reader something is in each set, register and counter. */
    private static void crowd(DotGossip x) {
        x.open(REPLICAS);
        for (int r = 0; r < READER; r++) {
            for (int k = 0; k < 4; k++) {
                x.add(r, k, 0);
                x.add(r, k, 15);
                x.add(r, k, 7 + (r + k) % 2);
                x.write(r, k, 10 * r + k);
                x.count(r, k, 100 + r);
                x.count(r, k, -10 - k);
            }
        }
        for (int r = 0; r < READER; r++) {
            x.gossip(r, (r + 1) % READER);
            x.deliver(0);
        }
        for (int r = 0; r < READER; r++) {
            x.gossip(r, (r + 1) % READER);
            x.gossip(r, (r + 2) % READER);
        }
    }

    private static void changesOnly(String what, Check.Run call, String... names) {
        Map<String, String> before = shown(ChangeTest::crowd);
        Map<String, String> after = shown(x -> {
            crowd(x);
            call.on(x);
        });
        List<String> changed = difference(before, after);
        Check.due(what + " changes " + names[0], changed.toString().contains(names[0] + ": "), true);
        nothingBeside(what, changed, names);
    }

    private static void nothingBeside(String what, List<String> changed, String... names) {
        List<String> other = new ArrayList<>(changed);
        other.removeIf(line -> Arrays.stream(names).anyMatch(line::startsWith));
        Check.due(what + " beside " + Arrays.toString(names) + " changed " + other, other.size(), 0);
    }

    /** Promises 13 to 21: every look at every place, one kind after the other. */
    private static void looksChangeNothing() {
        for (int k = 0; k < REPLICAS; k++) {
            int r = k;
            looks("contains", x -> eachElement((s, e) -> x.contains(r, s, e)));
            looks("dot's replica", x -> eachElement((s, e) -> x.dot(r, s, e, 0, 0)));
            looks("dot's number", x -> eachElement((s, e) -> x.dot(r, s, e, 1, 1)));
            looks("no dot", x -> eachElement((s, e) -> x.dot(r, s, e, 9, 1)));
            looks("size", x -> eachOf(4, s -> x.size(r, s)));
            looks("values", x -> eachOf(4, g -> x.values(r, g)));
            looks("total", x -> eachOf(4, c -> x.total(r, c)));
            looks("vector", x -> eachOf(REPLICAS, of -> x.vector(r, of)));
            looks("same", x -> eachOf(REPLICAS, other -> x.same(r, other)));
            looks("value", x -> eachOf(4, g -> eachOf(3, what -> x.value(r, g, 0, what))));
            looks("no value", x -> eachOf(4, g -> eachOf(3, what -> x.value(r, g, 5, what))));
        }
        looks("message", x -> eachOf(3, i -> eachOf(REPLICAS + 4, what -> x.message(i, what - 2))));
        looks("no message", x -> eachOf(2, what -> x.message(-7, what - 2)));
    }

    private interface AtElement {
        void look(int set, int element);
    }

    private interface AtNumber {
        void look(int number);
    }

    private static void eachElement(AtElement at) {
        for (int k = 0; k < 64; k++) {
            at.look(k / 16, k % 16);
        }
    }

    private static void eachOf(int many, AtNumber at) {
        for (int k = 0; k < many; k++) {
            at.look(k);
        }
    }

    private static void looks(String what, Check.Run look) {
        changes(what + " changes nothing", look);
    }

    private static void changes(String what, Check.Run call, String... due) {
        changes(what, ChangeTest::base, x -> {
            base(x);
            call.on(x);
        }, due);
    }

    private static void changes(String what, Check.Run one, Check.Run two, String... due) {
        same(what, difference(shown(one), shown(two)), due);
    }

    private static void same(String what, List<String> got, String... due) {
        Check.due(what + " changed " + got + ", due is " + Arrays.toString(due),
                got.equals(Arrays.asList(due)), true);
    }

    private static List<String> difference(Map<String, String> before, Map<String, String> after) {
        Map<String, String> all = new LinkedHashMap<>(before);
        after.forEach(all::putIfAbsent);
        List<String> lines = new ArrayList<>();
        for (String name : all.keySet()) {
            String old = before.get(name);
            String now = after.get(name);
            if (now == null ? old != null : !now.equals(old)) {
                lines.add(name + ": " + old + ", now " + now);
            }
        }
        return lines;
    }

    /** All that can be seen behind a run; what is empty is left out. */
    private static Map<String, String> shown(Check.Run run) {
        Map<String, String> all = new LinkedHashMap<>();
        for (int r = 0; r < REPLICAS; r++) {
            Map<String, String> replica = replica(after(run), r);
            for (String name : replica.keySet()) {
                all.put("replica " + r + ", " + name, replica.get(name));
            }
        }
        DotGossip x = after(run);
        all.put("replicas", "" + x.message(0, NONE));
        for (int i = 0; i < x.message(0, -2); i++) {
            String ends = "from " + x.message(i, 0) + " to " + x.message(i, 1);
            all.put("message " + i, ends + content(run, i));
        }
        return all;
    }

    private static DotGossip after(Check.Run run) {
        DotGossip x = new DotGossip();
        run.on(x);
        return x;
    }

    private static String content(Check.Run run, int i) {
        DotGossip x = after(run);
        int[] vector = new int[REPLICAS];
        Arrays.setAll(vector, of -> x.message(i, 2 + of));
        x.turn(i, READER);
        x.deliver(i);
        Map<String, String> brought = replica(x, READER);
        Check.due("the vector that message " + i + " brings", brought.remove("vector").equals(Arrays.toString(vector)), true);
        StringBuilder all = new StringBuilder(", " + Arrays.toString(vector));
        brought.forEach((name, what) -> all.append(", ").append(name).append(' ').append(what));
        return all.toString();
    }

    private static Map<String, String> replica(DotGossip x, int r) {
        Map<String, String> all = new LinkedHashMap<>();
        for (int s = 0; s < 4; s++) {
            putUnless("", all, "set " + s, set(x, r, s));
        }
        for (int g = 0; g < 4; g++) {
            putUnless("", all, "register " + g, register(x, r, g));
        }
        for (int c = 0; c < 4; c++) {
            putUnless("0", all, "counter " + c, "" + x.total(r, c));
        }
        int[] vector = new int[REPLICAS];
        Arrays.setAll(vector, of -> of < x.message(0, NONE) ? x.vector(r, of) : NONE);
        all.put("vector", Arrays.toString(vector));
        return all;
    }

    private static void putUnless(String empty, Map<String, String> all, String name, String what) {
        if (!what.equals(empty)) {
            all.put(name, what);
        }
    }

    private static String set(DotGossip x, int r, int s) {
        StringBuilder all = new StringBuilder();
        for (int e = 0; e < 16; e++) {
            StringBuilder dots = new StringBuilder();
            for (int i = 0; i < MOST_DOTS && x.dot(r, s, e, i, 0) != NONE; i++) {
                dots.append(' ').append(x.dot(r, s, e, i, 0)).append('.').append(x.dot(r, s, e, i, 1));
            }
            if (dots.length() > 0) {
                all.append(' ').append(e).append('(').append(dots.substring(1)).append(')');
            }
        }
        return all.toString().trim();
    }

    private static String register(DotGossip x, int r, int g) {
        StringBuilder all = new StringBuilder();
        for (int i = 0; i < MOST_DOTS && x.value(r, g, i, 0) != NONE; i++) {
            all.append(' ').append(x.value(r, g, i, 0)).append('.').append(x.value(r, g, i, 1));
            all.append('=').append(x.value(r, g, i, 2));
        }
        return all.toString().trim();
    }
}

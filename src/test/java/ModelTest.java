import java.util.ArrayList;
import java.util.Arrays;
import java.util.HashMap;
import java.util.List;
import java.util.Map;
import java.util.Random;
import java.util.Set;
import java.util.TreeMap;

/** Long mixed runs against a model that follows the document's terms word by word. */
public final class ModelTest {
    private static final int RUNS = 3000;
    private static final int CALLS_A_RUN = 512;
    private static final long ILLEGAL_ARGUMENT = Long.MIN_VALUE;
    private static final long ILLEGAL_STATE = Long.MIN_VALUE + 1;

    private static final String GOSSIP = "88 gossip replica replica";
    private static final Set<String> TAKES_OFF = Set.of("deliver", "drop");

    // How often, which call, and what its arguments are; what changes state comes often enough for
    // states to meet.
    private static final String[] CALLS = {
        "1 open replicas",
        "60 add replica set element",
        "24 remove replica set element",
        "8 clear replica set",
        "32 write replica set any",
        "32 count replica set any",
        GOSSIP,
        "64 deliver message",
        "12 drop message",
        "24 copy message",
        "16 turn message replica",
        "16 contains replica set element",
        "12 size replica set",
        "40 dot replica set element which part",
        "40 value replica set which part",
        "12 values replica set",
        "16 total replica set",
        "16 vector replica replica",
        "24 same replica replica",
        "24 message message ask",
    };

    private ModelTest() {
    }

    public static void main(String[] args) {
        for (int seed = 0; seed < RUNS; seed++) {
            run(seed);
        }
        Check.end();
    }

    private static void run(int seed) {
        Random random = new Random(seed);
        DotGossip x = new DotGossip();
        Model model = new Model();
        // Some runs mostly send where they would take off the wire, so that it is full at times.
        boolean hoarding = seed % 10 == 0;
        for (int k = 0; k < CALLS_A_RUN; k++) {
            String[] call = (k == 0 ? CALLS[0] : pick(random)).split(" ");
            if (hoarding && TAKES_OFF.contains(call[1]) && random.nextInt(9) != 0) {
                call = GOSSIP.split(" ");
            }
            int[] a = arguments(random, call, model);
            long due = model.answer(call[1], a);
            long got = answer(x, call[1], a);
            Check.due("run " + seed + ", call " + k + ", " + call[1] + Arrays.toString(a), got, due);
        }
    }

    private static String pick(Random random) {
        int sum = 0;
        for (String call : CALLS) {
            sum += weight(call);
        }
        int left = random.nextInt(sum);
        int k = 0;
        while (left >= weight(CALLS[k])) {
            left -= weight(CALLS[k]);
            k++;
        }
        return CALLS[k];
    }

    private static int weight(String call) {
        return Integer.parseInt(call.substring(0, call.indexOf(' ')));
    }

    private static int[] arguments(Random random, String[] call, Model model) {
        int[] a = new int[call.length - 2];
        for (int k = 0; k < a.length; k++) {
            a[k] = argument(random, call[k + 2], model);
        }
        return a;
    }

    private static int argument(Random random, String kind, Model model) {
        boolean odd = random.nextInt(150) == 0;
        switch (kind) {
            case "replicas":
                return random.nextInt(8) == 0 ? random.nextInt(10) - 1 : 2 + random.nextInt(5);
            case "replica":
                return odd ? random.nextInt(12) - 3 : random.nextInt(model.replicas.size());
            case "set": // a register or a counter, too
                return odd ? random.nextInt(9) - 3 : random.nextInt(2) * 3;
            case "element":
                return odd ? random.nextInt(40) - 20 : random.nextInt(3) * 7 + 1;
            case "which":
                return random.nextInt(5) - 1;
            case "part":
                return odd ? random.nextInt(6) - 2 : random.nextInt(3);
            case "message":
                return odd || model.wire.isEmpty() ? random.nextInt(120) - 10 : random.nextInt(model.wire.size());
            case "ask":
                return random.nextInt(13) - 4;
            default:
                return anyNumber(random);
        }
    }

    private static int anyNumber(Random random) {
        switch (random.nextInt(5)) {
            case 0:
                return random.nextInt();
            case 1:
                return Integer.MAX_VALUE;
            case 2:
                return Integer.MIN_VALUE;
            default:
                return random.nextInt(9) - 4;
        }
    }

    private static long answer(DotGossip x, String call, int[] a) {
        try {
            switch (call) {
                case "open": x.open(a[0]); return 0;
                case "add": return x.add(a[0], a[1], a[2]);
                case "remove": return x.remove(a[0], a[1], a[2]);
                case "clear": return x.clear(a[0], a[1]);
                case "write": return x.write(a[0], a[1], a[2]);
                case "count": return x.count(a[0], a[1], a[2]);
                case "gossip": return x.gossip(a[0], a[1]);
                case "deliver": return x.deliver(a[0]);
                case "drop": return x.drop(a[0]);
                case "copy": return x.copy(a[0]) ? 1 : 0;
                case "turn": x.turn(a[0], a[1]); return 0;
                case "contains": return x.contains(a[0], a[1], a[2]) ? 1 : 0;
                case "size": return x.size(a[0], a[1]);
                case "dot": return x.dot(a[0], a[1], a[2], a[3], a[4]);
                case "value": return x.value(a[0], a[1], a[2], a[3]);
                case "values": return x.values(a[0], a[1]);
                case "total": return x.total(a[0], a[1]);
                case "vector": return x.vector(a[0], a[1]);
                case "same": return x.same(a[0], a[1]) ? 1 : 0;
                default: return x.message(a[0], a[1]);
            }
        } catch (IllegalArgumentException e) {
            return ILLEGAL_ARGUMENT;
        } catch (IllegalStateException e) {
            return ILLEGAL_STATE;
        }
    }

    /** A dot, told in order of replicas, then numbers. */
    private record Dot(int replica, int number) implements Comparable<Dot> {
        @Override
        public int compareTo(Dot other) {
            return replica != other.replica
                    ? Integer.compare(replica, other.replica) : Integer.compare(number, other.number);
        }
    }

    /** What a replica has: equal states are equal records. */
    private record State(Map<Integer, Integer> vector, Map<Integer, TreeMap<Dot, Integer>> dots,
            Map<Integer, Long> counts) {
        static State empty() {
            return new State(new HashMap<>(), new HashMap<>(), new HashMap<>());
        }

        State copied() {
            State copy = empty();
            copy.vector.putAll(vector);
            copy.counts.putAll(counts);
            dots.forEach((place, here) -> copy.dots.put(place, new TreeMap<>(here)));
            return copy;
        }

        int seen(int replica) {
            return vector.getOrDefault(replica, 0);
        }

        TreeMap<Dot, Integer> at(int place) {
            return dots.getOrDefault(place, new TreeMap<>());
        }

        void put(int place, TreeMap<Dot, Integer> here) {
            dots.remove(place);
            if (!here.isEmpty()) {
                dots.put(place, here);
            }
        }

        int make(int place, int replica, int value) {
            int number = seen(replica) + 1;
            vector.put(replica, number);
            TreeMap<Dot, Integer> alone = new TreeMap<>();
            alone.put(new Dot(replica, number), value);
            put(place, alone);
            return number;
        }

        int value(int counter) {
            long sum = 0;
            for (int r = 0; r < 6; r++) {
                sum += counts.getOrDefault(counter * 100 + r, 0L) - counts.getOrDefault(counter * 100 + 50 + r, 0L);
            }
            return (int) sum;
        }

        int deliver(State sent) {
            int came = 0;
            for (int place = 0; place < 68; place++) {
                TreeMap<Dot, Integer> next = new TreeMap<>();
                for (Map.Entry<Dot, Integer> e : at(place).entrySet()) {
                    Dot dot = e.getKey();
                    if (sent.at(place).containsKey(dot) || dot.number > sent.seen(dot.replica)) {
                        next.put(dot, e.getValue());
                    }
                }
                for (Map.Entry<Dot, Integer> e : sent.at(place).entrySet()) {
                    Dot dot = e.getKey();
                    if (!at(place).containsKey(dot) && dot.number > seen(dot.replica)) {
                        next.put(dot, e.getValue());
                        came++;
                    }
                }
                put(place, next);
            }
            sent.vector.forEach((replica, number) -> vector.merge(replica, number, Math::max));
            sent.counts.forEach((part, much) -> counts.merge(part, much, Math::max));
            return came;
        }
    }

    private static final class Sent {
        int from;
        int to;
        State state;

        Sent(int from, int to, State state) {
            this.from = from;
            this.to = to;
            this.state = state;
        }
    }

    private static final class Model {
        private static final Set<String> WIRE = Set.of("deliver", "drop", "copy", "turn", "message");

        final List<State> replicas = new ArrayList<>();
        final List<Sent> wire = new ArrayList<>();

        Model() {
            open(2);
        }

        private void open(int n) {
            replicas.clear();
            wire.clear();
            for (int r = 0; r < n; r++) {
                replicas.add(State.empty());
            }
        }

        long answer(String call, int[] a) {
            if (!legal(call, a)) {
                return ILLEGAL_ARGUMENT;
            }
            if (call.equals("open")) {
                open(a[0]);
                return 0;
            }
            if (WIRE.contains(call)) {
                return ofWire(call, a);
            }
            return ofReplica(call, a, replicas.get(a[0]));
        }

        private boolean legal(String call, int[] a) {
            switch (call) {
                case "open":
                    return a[0] >= 2 && a[0] <= 6;
                case "add": case "remove": case "contains": case "dot":
                    return replica(a[0]) && in(a[1], 4) && in(a[2], 16) && (!call.equals("dot") || in(a[4], 2));
                case "clear": case "write": case "count": case "size": case "values": case "total":
                    return replica(a[0]) && in(a[1], 4);
                case "gossip":
                    return replica(a[0]) && replica(a[1]) && a[0] != a[1];
                case "deliver": case "drop": case "copy":
                    return in(a[0], wire.size());
                case "turn":
                    return in(a[0], wire.size()) && replica(a[1]);
                case "value":
                    return replica(a[0]) && in(a[1], 4) && in(a[3], 3);
                case "vector": case "same":
                    return replica(a[0]) && replica(a[1]);
                default:
                    return a[1] == -1 || a[1] == -2 || in(a[0], wire.size()) && in(a[1], 2 + replicas.size());
            }
        }

        private boolean replica(int r) {
            return in(r, replicas.size());
        }

        private static boolean in(int k, int bound) {
            return k >= 0 && k < bound;
        }

        private long ofWire(String call, int[] a) {
            switch (call) {
                case "deliver": {
                    Sent sent = wire.remove(a[0]);
                    return replicas.get(sent.to).deliver(sent.state);
                }
                case "drop":
                    return wire.remove(a[0]).to;
                case "copy": {
                    Sent sent = wire.get(a[0]);
                    return wire.size() < 100 && wire.add(new Sent(sent.from, sent.to, sent.state.copied())) ? 1 : 0;
                }
                case "turn":
                    wire.get(a[0]).to = a[1];
                    return 0;
                default:
                    return ofMessage(a[0], a[1]);
            }
        }

        private long ofMessage(int i, int what) {
            if (what < 0) {
                return what == -1 ? replicas.size() : wire.size();
            }
            Sent sent = wire.get(i);
            return what == 0 ? sent.from : what == 1 ? sent.to : sent.state.seen(what - 2);
        }

        private long ofReplica(String call, int[] a, State state) {
            switch (call) {
                case "add":
                    return state.make(a[1] * 16 + a[2], a[0], 0);
                case "remove": {
                    int had = state.at(a[1] * 16 + a[2]).size();
                    state.dots.remove(a[1] * 16 + a[2]);
                    return had;
                }
                case "clear": {
                    int had = size(state, a[1]);
                    state.dots.keySet().removeIf(place -> place < 64 && place / 16 == a[1]);
                    return had;
                }
                case "write": {
                    int had = state.at(64 + a[1]).size();
                    state.make(64 + a[1], a[0], a[2]);
                    return had;
                }
                case "count": {
                    int part = a[1] * 100 + (a[2] < 0 ? 50 : 0) + a[0];
                    if (a[2] != 0) {
                        state.counts.merge(part, Math.abs((long) a[2]), Long::sum);
                    }
                    return state.value(a[1]);
                }
                case "gossip":
                    if (wire.size() == 100) {
                        return ILLEGAL_STATE;
                    }
                    wire.add(new Sent(a[0], a[1], state.copied()));
                    return wire.size();
                default:
                    return look(call, a, state);
            }
        }

        private long look(String call, int[] a, State state) {
            switch (call) {
                case "contains":
                    return state.at(a[1] * 16 + a[2]).isEmpty() ? 0 : 1;
                case "size":
                    return size(state, a[1]);
                case "dot":
                    return part(state.at(a[1] * 16 + a[2]), a[3], a[4]);
                case "value":
                    return part(state.at(64 + a[1]), a[2], a[3]);
                case "values":
                    return state.at(64 + a[1]).size();
                case "total":
                    return state.value(a[1]);
                case "vector":
                    return state.seen(a[1]);
                default:
                    return state.equals(replicas.get(a[1])) ? 1 : 0;
            }
        }

        private static int size(State state, int set) {
            int in = 0;
            for (int e = 0; e < 16; e++) {
                in += state.at(set * 16 + e).isEmpty() ? 0 : 1;
            }
            return in;
        }

        private static long part(TreeMap<Dot, Integer> dots, int i, int what) {
            List<Dot> order = new ArrayList<>(dots.keySet());
            if (!in(i, order.size())) {
                return what == 2 ? 0 : -1;
            }
            Dot dot = order.get(i);
            return what == 0 ? dot.replica : what == 1 ? dot.number : dots.get(dot);
        }
    }
}

import java.util.ArrayList;
import java.util.Arrays;

/** Replicas that change by themselves and gossip all they have over an unsure wire. */
public final class DotGossip {
    public static final int NONE = -1;

    private static final int LEAST_REPLICAS = 2;
    private static final int MOST_REPLICAS = 6;
    private static final int SETS = 4;
    private static final int ELEMENTS = 16;
    private static final int REGISTERS = 4;
    private static final int COUNTERS = 4;
    private static final int MOST_MESSAGES = 100;

    // A place is where dots can be: one for each element of each set, then one for each register.
    private static final int FIRST_REGISTER = SETS * ELEMENTS;
    private static final int PLACES = FIRST_REGISTER + REGISTERS;

    private static final int ASK_REPLICA = 0;
    private static final int ASK_NUMBER = 1;
    private static final int ASK_VALUE = 2;

    private static final int ASK_FROM = 0;
    private static final int ASK_TO = 1;
    private static final int ASK_VECTOR = 2;
    private static final int ASK_MESSAGES = -2;

    private final Holding[] holdings;
    private final ArrayList<Message> wire;
    private int replicaCount;

    public DotGossip() {
        holdings = new Holding[MOST_REPLICAS];
        for (int r = 0; r < MOST_REPLICAS; r++) {
            holdings[r] = new Holding();
        }
        wire = new ArrayList<>();
        replicaCount = LEAST_REPLICAS;
    }

    public void open(int replicas) throws IllegalArgumentException {
        require(replicas >= LEAST_REPLICAS && replicas <= MOST_REPLICAS);
        for (int r = 0; r < MOST_REPLICAS; r++) {
            holdings[r].wipe();
        }
        wire.clear();
        replicaCount = replicas;
    }

    public int add(int replica, int set, int element) throws IllegalArgumentException {
        requireElement(replica, set, element);
        Holding own = holdings[replica];
        int place = placeOfElement(set, element);
        own.forget(place);
        return own.makeDot(place, replica);
    }

    public int remove(int replica, int set, int element) throws IllegalArgumentException {
        requireElement(replica, set, element);
        return holdings[replica].forget(placeOfElement(set, element));
    }

    public int clear(int replica, int set) throws IllegalArgumentException {
        requireReplica(replica);
        requireIndex(set, SETS);
        int removed = 0;
        for (int element = 0; element < ELEMENTS; element++) {
            if (holdings[replica].forget(placeOfElement(set, element)) > 0) {
                removed++;
            }
        }
        return removed;
    }

    public int write(int replica, int register, int value) throws IllegalArgumentException {
        requireReplica(replica);
        requireIndex(register, REGISTERS);
        Holding own = holdings[replica];
        int place = FIRST_REGISTER + register;
        int before = own.forget(place);
        own.makeDot(place, replica);
        own.written[register * MOST_REPLICAS + replica] = value;
        return before;
    }

    public int count(int replica, int counter, int by) throws IllegalArgumentException {
        requireReplica(replica);
        requireIndex(counter, COUNTERS);
        Holding own = holdings[replica];
        int row = counter * MOST_REPLICAS + replica;
        if (by >= 0) {
            own.added[row] += by;
        } else {
            // Subtracted from the long, since the lowest int has no int of the other sign.
            own.taken[row] -= by;
        }
        return own.worth(counter);
    }

    public int gossip(int from, int to) throws IllegalArgumentException, IllegalStateException {
        requireReplica(from);
        requireReplica(to);
        require(from != to);
        if (wire.size() >= MOST_MESSAGES) {
            throw new IllegalStateException();
        }
        wire.add(new Message(from, to, holdings[from].snapshot()));
        return wire.size();
    }

    public int deliver(int i) throws IllegalArgumentException {
        requireIndex(i, wire.size());
        Message come = wire.remove(i);
        return holdings[come.to].merge(come.sent);
    }

    public int drop(int i) throws IllegalArgumentException {
        requireIndex(i, wire.size());
        return wire.remove(i).to;
    }

    public boolean copy(int i) throws IllegalArgumentException {
        requireIndex(i, wire.size());
        if (wire.size() >= MOST_MESSAGES) {
            return false;
        }
        // What was sent never changes, so both messages may share it; only the receiver can.
        Message first = wire.get(i);
        wire.add(new Message(first.from, first.to, first.sent));
        return true;
    }

    public void turn(int i, int to) throws IllegalArgumentException {
        requireIndex(i, wire.size());
        requireReplica(to);
        wire.get(i).to = to;
    }

    public boolean contains(int replica, int set, int element) throws IllegalArgumentException {
        requireElement(replica, set, element);
        return holdings[replica].dotsAt(placeOfElement(set, element)) > 0;
    }

    public int size(int replica, int set) throws IllegalArgumentException {
        requireReplica(replica);
        requireIndex(set, SETS);
        int in = 0;
        for (int element = 0; element < ELEMENTS; element++) {
            if (holdings[replica].dotsAt(placeOfElement(set, element)) > 0) {
                in++;
            }
        }
        return in;
    }

    public int dot(int replica, int set, int element, int i, int what) throws IllegalArgumentException {
        requireElement(replica, set, element);
        require(what == ASK_REPLICA || what == ASK_NUMBER);
        Holding own = holdings[replica];
        int place = placeOfElement(set, element);
        int maker = own.makerOf(place, i);
        return what == ASK_REPLICA ? maker : own.numberBy(place, maker);
    }

    public int value(int replica, int register, int i, int what) throws IllegalArgumentException {
        requireReplica(replica);
        requireIndex(register, REGISTERS);
        require(what == ASK_REPLICA || what == ASK_NUMBER || what == ASK_VALUE);
        Holding own = holdings[replica];
        int place = FIRST_REGISTER + register;
        int maker = own.makerOf(place, i);
        if (what == ASK_VALUE) {
            return maker == NONE ? 0 : own.written[register * MOST_REPLICAS + maker];
        }
        return what == ASK_REPLICA ? maker : own.numberBy(place, maker);
    }

    public int values(int replica, int register) throws IllegalArgumentException {
        requireReplica(replica);
        requireIndex(register, REGISTERS);
        return holdings[replica].dotsAt(FIRST_REGISTER + register);
    }

    public int total(int replica, int counter) throws IllegalArgumentException {
        requireReplica(replica);
        requireIndex(counter, COUNTERS);
        return holdings[replica].worth(counter);
    }

    public int vector(int replica, int of) throws IllegalArgumentException {
        requireReplica(replica);
        requireReplica(of);
        return holdings[replica].seen[of];
    }

    public boolean same(int replica, int other) throws IllegalArgumentException {
        requireReplica(replica);
        requireReplica(other);
        return holdings[replica].matches(holdings[other]);
    }

    public int message(int i, int what) throws IllegalArgumentException {
        if (what == NONE) {
            return replicaCount;
        }
        if (what == ASK_MESSAGES) {
            return wire.size();
        }
        requireIndex(i, wire.size());
        require(what >= ASK_FROM && what < ASK_VECTOR + replicaCount);
        Message asked = wire.get(i);
        if (what == ASK_FROM) {
            return asked.from;
        }
        return what == ASK_TO ? asked.to : asked.sent.seen[what - ASK_VECTOR];
    }

    private static int placeOfElement(int set, int element) {
        return set * ELEMENTS + element;
    }

    private void requireElement(int replica, int set, int element) {
        requireReplica(replica);
        requireIndex(set, SETS);
        requireIndex(element, ELEMENTS);
    }

    private void requireReplica(int replica) {
        requireIndex(replica, replicaCount);
    }

    private static void requireIndex(int index, int bound) {
        require(index >= 0 && index < bound);
    }

    private static void require(boolean allowed) {
        if (!allowed) {
            throw new IllegalArgumentException();
        }
    }

    private static final class Message {
        final int from;
        int to;
        final Holding sent;

        Message(int from, int to, Holding sent) {
            this.from = from;
            this.to = to;
            this.sent = sent;
        }
    }

    /**
     * All that a replica has, or that a message has of it.
     *
     * A place never has two dots of one replica: whoever has seen the later dot has seen, by its
     * vector, that the earlier one is gone. So one number for each place and replica is enough,
     * 0 where there is no dot, and dots lie in the order in which they are told.
     */
    private static final class Holding {
        final int[] seen;
        final int[] numbers;
        final int[] written;
        final long[] added;
        final long[] taken;

        Holding() {
            seen = new int[MOST_REPLICAS];
            numbers = new int[PLACES * MOST_REPLICAS];
            written = new int[REGISTERS * MOST_REPLICAS];
            added = new long[COUNTERS * MOST_REPLICAS];
            taken = new long[COUNTERS * MOST_REPLICAS];
        }

        void wipe() {
            Arrays.fill(seen, 0);
            Arrays.fill(numbers, 0);
            Arrays.fill(written, 0);
            Arrays.fill(added, 0L);
            Arrays.fill(taken, 0L);
        }

        Holding snapshot() {
            Holding image = new Holding();
            System.arraycopy(seen, 0, image.seen, 0, seen.length);
            System.arraycopy(numbers, 0, image.numbers, 0, numbers.length);
            System.arraycopy(written, 0, image.written, 0, written.length);
            System.arraycopy(added, 0, image.added, 0, added.length);
            System.arraycopy(taken, 0, image.taken, 0, taken.length);
            return image;
        }

        int makeDot(int place, int maker) {
            seen[maker]++;
            numbers[place * MOST_REPLICAS + maker] = seen[maker];
            return seen[maker];
        }

        int forget(int place) {
            int had = dotsAt(place);
            for (int maker = 0; maker < MOST_REPLICAS; maker++) {
                numbers[place * MOST_REPLICAS + maker] = 0;
            }
            return had;
        }

        int dotsAt(int place) {
            int dots = 0;
            for (int maker = 0; maker < MOST_REPLICAS; maker++) {
                if (numbers[place * MOST_REPLICAS + maker] != 0) {
                    dots++;
                }
            }
            return dots;
        }

        /** The replica of a place's dot i, NONE without such a dot. */
        int makerOf(int place, int i) {
            int before = 0;
            for (int maker = 0; maker < MOST_REPLICAS; maker++) {
                if (numbers[place * MOST_REPLICAS + maker] != 0) {
                    if (before == i) {
                        return maker;
                    }
                    before++;
                }
            }
            return NONE;
        }

        int numberBy(int place, int maker) {
            return maker == NONE ? NONE : numbers[place * MOST_REPLICAS + maker];
        }

        int worth(int counter) {
            long sum = 0;
            for (int r = 0; r < MOST_REPLICAS; r++) {
                int row = counter * MOST_REPLICAS + r;
                sum += added[row] - taken[row];
            }
            return (int) sum;
        }

        /** Takes in what was sent; answers how many dots came. */
        int merge(Holding sent) {
            int came = 0;
            for (int place = 0; place < PLACES; place++) {
                for (int maker = 0; maker < MOST_REPLICAS; maker++) {
                    if (mergeDot(sent, place, maker)) {
                        came++;
                    }
                }
            }
            // Only now, since every dot is weighed against what was seen before.
            for (int r = 0; r < MOST_REPLICAS; r++) {
                seen[r] = Math.max(seen[r], sent.seen[r]);
            }
            for (int row = 0; row < COUNTERS * MOST_REPLICAS; row++) {
                added[row] = Math.max(added[row], sent.added[row]);
                taken[row] = Math.max(taken[row], sent.taken[row]);
            }
            return came;
        }

        private boolean mergeDot(Holding sent, int place, int maker) {
            int row = place * MOST_REPLICAS + maker;
            int there = sent.numbers[row];
            if (there > seen[maker]) {
                numbers[row] = there;
                if (place >= FIRST_REGISTER) {
                    int value = row - FIRST_REGISTER * MOST_REPLICAS;
                    written[value] = sent.written[value];
                }
                return true;
            }
            if (numbers[row] != there && numbers[row] <= sent.seen[maker]) {
                numbers[row] = 0;
            }
            return false;
        }

        // Values need no look: a dot is made once, so where it is the same its value is, too.
        boolean matches(Holding other) {
            return equalInts(seen, other.seen)
                    && equalInts(numbers, other.numbers)
                    && equalLongs(added, other.added)
                    && equalLongs(taken, other.taken);
        }

        private static boolean equalInts(int[] one, int[] two) {
            for (int k = 0; k < one.length && k < two.length; k++) {
                if (one[k] != two[k]) {
                    return false;
                }
            }
            return true;
        }

        private static boolean equalLongs(long[] one, long[] two) {
            for (int k = 0; k < one.length && k < two.length; k++) {
                if (one[k] != two[k]) {
                    return false;
                }
            }
            return true;
        }
    }
}

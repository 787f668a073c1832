/** All room is taken: the row of messages, a set, an element's dots, a register's values, the calls. */
public final class FullTest {
    private static final int NONE = DotGossip.NONE;
    private static final int ROOM = 100;

    private FullTest() {
    }

    public static void main(String[] args) {
        gossipUpToTheLast();
        gossipBeyondTheLast();
        gossipNamesTheArgumentFirst();
        gossipAfterRoomWasMade();
        copyUpToTheLast();
        copyBeyondTheLast();
        copyOfNoMessageWhenFull();
        copyAfterRoomWasMade();
        deliverFromTheFullRow();
        dropFromTheFullRow();
        turnInTheFullRow();
        askTheFullRow();
        openEmptiesTheFullRow();
        fullSet();
        elementWithADotOfEach();
        registerWithAValueOfEach();
        allRegistersWithAValueOfEach();
        allCountersWithCountsOfEach();
        messageWithAllDots();
        numbersBeyondAByte();
        lastCall();
        Check.end();
    }

    /** Three replicas, a dot each, and so many messages. */
    private static Check.Run row(int many) {
        return x -> {
            x.open(3);
            for (int r = 0; r < 3; r++) {
                x.add(r, 0, r);
            }
            for (int k = 0; k < many; k++) {
                x.gossip(k % 3, (k + 1) % 3);
            }
        };
    }

    private static DotGossip after(Check.Run run) {
        DotGossip x = new DotGossip();
        run.on(x);
        return x;
    }

    /** Promise 8: how many there are, and up to 100. */
    private static void gossipUpToTheLast() {
        for (int n = 2; n <= 6; n++) {
            DotGossip x = new DotGossip();
            x.open(n);
            for (int k = 0; k < ROOM; k++) {
                Check.due("gossip " + k, x.gossip(k % n, (k + 1) % n), k + 1);
                Check.due("messages", x.message(0, -2), k + 1);
            }
        }
    }

    /** Promise 8: IllegalStateException, there are 100. */
    private static void gossipBeyondTheLast() {
        for (int f = 0; f < 3; f++) {
            for (int t = 0; t < 3; t++) {
                int from = f;
                int to = t;
                if (from != to) {
                    Check.refused("gossip(" + from + ", " + to + ") with 100", row(ROOM),
                            x -> x.gossip(from, to), IllegalStateException.class);
                    Check.allowed("gossip with 99", row(ROOM - 1), x -> x.gossip(from, to));
                }
            }
        }
    }

    /** Of several exceptions that fit the one named first is thrown. */
    private static void gossipNamesTheArgumentFirst() {
        int[][] wrong = {{0, 0}, {1, 1}, {2, 2}, {-1, 0}, {0, -1}, {3, 0}, {0, 3}, {3, 3}, {-1, -1},
            {Integer.MIN_VALUE, 1}, {1, Integer.MAX_VALUE}};
        for (int[] pair : wrong) {
            String call = "gossip(" + pair[0] + ", " + pair[1] + ") with ";
            Check.illegal(call + "100", row(ROOM), x -> x.gossip(pair[0], pair[1]));
            Check.illegal(call + "99", row(ROOM - 1), x -> x.gossip(pair[0], pair[1]));
        }
    }

    private static void gossipAfterRoomWasMade() {
        for (Check.Run taking : new Check.Run[] {x -> x.drop(0), x -> x.drop(99), x -> x.deliver(0), x -> x.deliver(99)}) {
            Check.Run full = x -> {
                row(ROOM).on(x);
                taking.on(x);
            };
            DotGossip x = after(full);
            Check.due("99 are left", x.message(0, -2), 99);
            Check.due("gossip", x.gossip(2, 1), ROOM);
            Check.due("it is the last", x.message(99, 0), 2);
            Check.refused("gossip when full again", y -> {
                full.on(y);
                y.gossip(2, 1);
            }, y -> y.gossip(2, 1), IllegalStateException.class);
        }
    }

    /** Promise 11: whether there was room, and up to 100. */
    private static void copyUpToTheLast() {
        DotGossip x = after(row(1));
        for (int k = 1; k < ROOM; k++) {
            Check.due("copy with " + k, x.copy(k - 1), true);
            Check.due("messages", x.message(0, -2), k + 1);
        }
        Check.due("copy with 100", x.copy(0), false);
        Check.due("messages stay", x.message(0, -2), ROOM);
    }

    /** Without room a copy answers false, where gossip throws, and changes nothing. */
    private static void copyBeyondTheLast() {
        for (int k = 0; k < ROOM; k++) {
            int i = k;
            Check.due("copy " + i + " with 100", after(row(ROOM)).copy(i), false);
            Check.due("copy with 99", after(row(ROOM - 1)).copy(i % 99), true);
        }
        for (int i : new int[] {0, 1, 50, 98, 99}) {
            Check.alike("copy " + i + " without room changes nothing", x -> {
                row(ROOM).on(x);
                x.copy(i);
            }, row(ROOM));
        }
    }

    private static void copyOfNoMessageWhenFull() {
        for (int i : new int[] {-1, ROOM, ROOM + 1, Integer.MIN_VALUE, Integer.MAX_VALUE}) {
            Check.illegal("copy " + i + " with 100", row(ROOM), x -> x.copy(i));
        }
        Check.illegal("copy 99 with 99", row(ROOM - 1), x -> x.copy(99));
    }

    private static void copyAfterRoomWasMade() {
        DotGossip x = after(row(ROOM));
        x.drop(98);
        Check.due("copy after a drop", x.copy(1), true);
        Check.due("behind all others", x.message(99, 0), 1);
        Check.due("copy again", x.copy(1), false);
        x.deliver(0);
        Check.due("copy after a delivery", x.copy(98), true);
        Check.due("messages", x.message(0, -2), ROOM);
        Check.due("copy once more", x.copy(98), false);
    }

    /** Promise 9: the last message of a full row is delivered, and lies there no more. */
    private static void deliverFromTheFullRow() {
        DotGossip x = after(row(ROOM));
        Check.due("from 0 to 1", x.deliver(99), 1);
        Check.due("messages", x.message(0, -2), 99);
        Check.due("the one before stays", x.message(98, 0), 2);
        Check.due("the first, from 0 to 1 too", x.deliver(0), 0);
        Check.due("messages", x.message(0, -2), 98);
        Check.due("the others move up", x.message(0, 0), 1);
        Check.due("the last, too", x.message(97, 0), 2);
        for (int k = 98; k > 0; k--) {
            x.deliver(0);
            Check.due("messages", x.message(0, -2), k - 1);
        }
    }

    /** Promise 10: to whom it was. */
    private static void dropFromTheFullRow() {
        DotGossip x = after(row(ROOM));
        Check.due("the last", x.drop(99), 1);
        for (int k = 0; k < 99; k++) {
            Check.due("drop", x.drop(0), (k + 1) % 3);
        }
        Check.due("messages", x.message(0, -2), 0);
        Check.due("nothing came", x.size(1, 0), 1);
    }

    /** Promise 12: turning needs no room. */
    private static void turnInTheFullRow() {
        DotGossip x = after(row(ROOM));
        for (int i : new int[] {0, 99}) {
            for (int to = 0; to < 3; to++) {
                x.turn(i, to);
                Check.due("to whom", x.message(i, 1), to);
                Check.due("from whom", x.message(i, 0), 0);
            }
        }
        Check.due("others stay", x.message(1, 1), 2);
        Check.due("others stay", x.message(98, 1), 0);
        Check.due("messages", x.message(0, -2), ROOM);
    }

    /** Promise 21: each of 100 messages. */
    private static void askTheFullRow() {
        DotGossip x = after(row(ROOM));
        for (int i = 0; i < ROOM; i++) {
            Check.due("from " + i, x.message(i, 0), i % 3);
            Check.due("to " + i, x.message(i, 1), (i + 1) % 3);
            Check.due("vector of " + i, x.message(i, 2 + i % 3), 1);
        }
        Check.due("messages, any i", x.message(ROOM, -2), ROOM);
        Check.illegal("behind the last", row(ROOM), y -> y.message(ROOM, 0));
    }

    /** Promise 2: no messages, so there is room for 100 again. */
    private static void openEmptiesTheFullRow() {
        DotGossip x = after(row(ROOM));
        x.open(2);
        Check.due("messages", x.message(0, -2), 0);
        for (int k = 1; k <= ROOM; k++) {
            Check.due("gossip", x.gossip(0, 1), k);
        }
        Check.illegal("open(7) when full", row(ROOM), y -> y.open(7));
        Check.illegal("open(1) when full", row(ROOM), y -> y.open(1));
    }

    /** Promises 3, 5 and 14: all 16 elements. */
    private static void fullSet() {
        for (int s = 0; s < 4; s++) {
            DotGossip x = new DotGossip();
            for (int e = 0; e < 16; e++) {
                Check.due("add", x.add(1, s, e), e + 1);
                Check.due("size", x.size(1, s), e + 1);
            }
            Check.due("add to the full set", x.add(1, s, 15), 17);
            Check.due("size stays", x.size(1, s), 16);
            Check.due("clear", x.clear(1, s), 16);
            Check.due("size of none", x.size(1, s), 0);
        }
    }

    /** Promises 4 and 15: six dots, the last of them 5. */
    private static void elementWithADotOfEach() {
        for (int at = 0; at < 6; at++) {
            DotGossip x = new DotGossip();
            x.open(6);
            for (int r = 0; r < 6; r++) {
                x.add(r, 3, 15);
            }
            gather(x, at);
            for (int i = 0; i < 6; i++) {
                Check.due("replica of dot " + i, x.dot(at, 3, 15, i, 0), i);
                Check.due("number of dot " + i, x.dot(at, 3, 15, i, 1), 1);
            }
            for (int i : new int[] {6, 7, -1, Integer.MIN_VALUE, Integer.MAX_VALUE}) {
                Check.due("replica of dot " + i, x.dot(at, 3, 15, i, 0), NONE);
                Check.due("number of dot " + i, x.dot(at, 3, 15, i, 1), NONE);
            }
            Check.due("one element", x.size(at, 3), 1);
            Check.due("remove", x.remove(at, 3, 15), 6);
            Check.due("contains", x.contains(at, 3, 15), false);
        }
    }

    /** Promises 6, 16 and 17: six values, the last of them 5. */
    private static void registerWithAValueOfEach() {
        int[] value = {Integer.MIN_VALUE, -1, 0, 1, 7, Integer.MAX_VALUE};
        for (int at = 0; at < 6; at++) {
            DotGossip x = new DotGossip();
            x.open(6);
            for (int r = 0; r < 6; r++) {
                x.write(r, 3, value[r]);
            }
            gather(x, at);
            Check.due("values", x.values(at, 3), 6);
            for (int i = 0; i < 6; i++) {
                Check.due("replica of dot " + i, x.value(at, 3, i, 0), i);
                Check.due("number of dot " + i, x.value(at, 3, i, 1), 1);
                Check.due("value of dot " + i, x.value(at, 3, i, 2), value[i]);
            }
            for (int i : new int[] {6, 7, -1, Integer.MIN_VALUE, Integer.MAX_VALUE}) {
                Check.due("replica of dot " + i, x.value(at, 3, i, 0), NONE);
                Check.due("number of dot " + i, x.value(at, 3, i, 1), NONE);
                Check.due("value of dot " + i, x.value(at, 3, i, 2), 0);
            }
            Check.due("write", x.write(at, 3, 2), 6);
            Check.due("values", x.values(at, 3), 1);
        }
    }

    /** Promises 6, 9 and 16: 24 values, each told by its own register and dot. */
    private static void allRegistersWithAValueOfEach() {
        for (int at = 0; at < 6; at++) {
            DotGossip x = new DotGossip();
            x.open(6);
            for (int r = 0; r < 6; r++) {
                for (int g = 0; g < 4; g++) {
                    x.write(r, g, 10 * g + r + 1);
                }
            }
            gather(x, at, 4);
            for (int g = 0; g < 4; g++) {
                for (int i = 0; i < 6; i++) {
                    Check.due("replica of dot " + i, x.value(at, g, i, 0), i);
                    Check.due("number of dot " + i, x.value(at, g, i, 1), g + 1);
                    Check.due("value of dot " + i, x.value(at, g, i, 2), 10 * g + i + 1);
                }
            }
        }
    }

    /** Promises 7, 9 and 18: what each replica added and took, of each counter. */
    private static void allCountersWithCountsOfEach() {
        for (int at = 0; at < 6; at++) {
            DotGossip x = new DotGossip();
            x.open(6);
            int[] due = new int[4];
            for (int r = 0; r < 6; r++) {
                for (int c = 0; c < 4; c++) {
                    int added = 1 << (4 * c + r);
                    int taken = 3 << (16 - c + r);
                    x.count(r, c, added);
                    x.count(r, c, -taken);
                    due[c] += added - taken;
                }
            }
            gather(x, at, 0);
            for (int c = 0; c < 4; c++) {
                Check.due("total", x.total(at, c), due[c]);
                Check.due("count one more", x.count(at, c, 1), due[c] + 1);
            }
        }
    }

    private static void gather(DotGossip x, int at) {
        gather(x, at, 1);
    }

    private static void gather(DotGossip x, int at, int come) {
        for (int r = 0; r < 6; r++) {
            if (r != at) {
                x.gossip(r, at);
                Check.due("dots that come", x.deliver(0), come);
            }
        }
    }

    /** Promise 9: how many dots came, five at each element and register. */
    private static void messageWithAllDots() {
        DotGossip x = new DotGossip();
        x.open(6);
        for (int r = 0; r < 5; r++) {
            for (int k = 0; k < 4; k++) {
                for (int e = 0; e < 16; e++) {
                    x.add(r, k, e);
                }
                x.write(r, k, r);
            }
        }
        for (int r = 0; r < 4; r++) {
            x.gossip(r, 4);
            Check.due("one at each place", x.deliver(0), 68);
        }
        x.gossip(4, 5);
        Check.due("five at each place", x.deliver(0), 340);
        Check.due("same", x.same(4, 5), true);
        for (int k = 0; k < 4; k++) {
            Check.due("size", x.size(5, k), 16);
            Check.due("values", x.values(5, k), 5);
            Check.due("the last element's dots", x.remove(5, k, 15), 5);
        }
    }

    /** Dots, vectors, values and counts of more than 8 bits are told apart and known again. */
    private static void numbersBeyondAByte() {
        DotGossip x = new DotGossip();
        for (int k = 1; k <= 299; k++) {
            x.add(0, 0, k % 16);
        }
        x.write(0, 0, 1000);
        x.count(0, 0, 1000);
        x.count(0, 0, -3000);
        x.gossip(0, 1);
        x.copy(0);
        Check.due("the message's vector", x.message(1, 2), 300);
        Check.due("all come", x.deliver(0), 17);
        Check.due("none comes twice", x.deliver(0), 0);
        Check.due("all stay", x.size(1, 0), 16);
        Check.due("the last element's number", x.dot(1, 0, 11, 0, 1), 299);
        Check.due("the value's number", x.value(1, 0, 0, 1), 300);
        Check.due("the value", x.value(1, 0, 0, 2), 1000);
        Check.due("the counter", x.total(1, 0), -2000);
        Check.due("the vector", x.vector(1, 0), 300);
        Check.due("same", x.same(0, 1), true);
        Check.due("the next number", x.add(0, 0, 11), 301);
        Check.due("not the same", x.same(0, 1), false);
        x.gossip(1, 0);
        x.deliver(0);
        Check.due("number 301 is above 300", x.dot(0, 0, 11, 0, 1), 301);
        Check.due("number 298 is not, but both have it", x.dot(0, 0, 10, 0, 1), 298);
        x.gossip(0, 1);
        Check.due("the one comes", x.deliver(0), 1);
        Check.due("and it alone is there", x.remove(1, 0, 11), 1);
    }

    /** An object is used for at most 512 calls: the last one answers as due. */
    private static void lastCall() {
        DotGossip x = new DotGossip();
        for (int k = 1; k <= 512; k++) {
            Check.due("add " + k, x.add(1, k / 16 % 4, k % 16), k);
        }
        DotGossip y = new DotGossip();
        for (int k = 1; k <= 509; k++) {
            y.add(0, k / 16 % 4, k % 16);
        }
        y.gossip(0, 1);
        Check.due("call 511: each element's last dot comes", y.deliver(0), 64);
        Check.due("call 512: the vector", y.vector(1, 0), 509);
        DotGossip z = new DotGossip();
        for (int k = 1; k <= 256; k++) {
            Check.due("gossip", z.gossip(0, 1), 1);
            Check.due("deliver", z.deliver(0), 0);
        }
    }
}

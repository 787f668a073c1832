/** Promises 6, 16 and 17: write, value, values. */
public final class RegisterTest {
    private static final int[] NO_REPLICA = {-1, 3, 6, Integer.MAX_VALUE, Integer.MIN_VALUE};
    private static final int[] NO_REGISTER = {-1, 4, Integer.MAX_VALUE, Integer.MIN_VALUE};

    private RegisterTest() {
    }

    public static void main(String[] args) {
        writeTellsValuesBefore();
        writeTakesTheNextNumber();
        everyRegisterIsItsOwn();
        valuesInOrder();
        equalValuesAreTwo();
        equalValueIsWrittenAnew();
        valueComesWithItsDot();
        valueWithoutSuch();
        wrongInputs();
        Check.end();
    }

    /** Three replicas whose register 2 has a value of each at replica 0. */
    private static void three(DotGossip x) {
        x.open(3);
        x.write(2, 2, 31);
        x.write(2, 2, 32);
        x.write(1, 2, -21);
        x.write(0, 2, 11);
        x.gossip(2, 0);
        x.gossip(1, 0);
        x.deliver(0);
        x.deliver(0);
        x.gossip(0, 1);
    }

    private static void writeTellsValuesBefore() {
        DotGossip x = new DotGossip();
        Check.due("first write", x.write(1, 3, 5), 0);
        Check.due("second write", x.write(1, 3, 5), 1);
        three(x);
        Check.due("write over three", x.write(0, 2, 99), 3);
        Check.due("values", x.values(0, 2), 1);
        Check.due("replica", x.value(0, 2, 0, 0), 0);
        Check.due("number", x.value(0, 2, 0, 1), 2);
        Check.due("value", x.value(0, 2, 0, 2), 99);
        Check.due("no other", x.value(0, 2, 1, 0), DotGossip.NONE);
        Check.due("another replica keeps its own", x.value(2, 2, 0, 2), 32);
    }

    private static void writeTakesTheNextNumber() {
        DotGossip x = new DotGossip();
        x.add(0, 0, 0);
        x.add(0, 0, 0);
        x.write(0, 0, 1);
        Check.due("number", x.value(0, 0, 0, 1), 3);
        Check.due("vector", x.vector(0, 0), 3);
        x.write(1, 0, 1);
        Check.due("the other replica's number", x.value(1, 0, 0, 1), 1);
    }

    private static void everyRegisterIsItsOwn() {
        for (int g = 0; g < 4; g++) {
            for (int v : new int[] {0, 1, -1, Integer.MAX_VALUE, Integer.MIN_VALUE}) {
                DotGossip x = new DotGossip();
                x.write(1, g, v);
                for (int k = 0; k < 4; k++) {
                    Check.due("values", x.values(1, k), k == g ? 1 : 0);
                    Check.due("value", x.value(1, k, 0, 2), k == g ? v : 0);
                    Check.due("replica", x.value(1, k, 0, 0), k == g ? 1 : DotGossip.NONE);
                    Check.due("values elsewhere", x.values(0, k), 0);
                    Check.due("no element", x.size(1, k), 0);
                }
            }
        }
    }

    private static void valuesInOrder() {
        DotGossip x = new DotGossip();
        x.open(6);
        for (int r = 0; r < 6; r++) {
            for (int k = 0; k <= 6 - r; k++) {
                x.write(r, 1, 100 * r + k);
            }
        }
        for (int r : new int[] {5, 0, 3, 1, 4}) {
            x.gossip(r, 2);
            x.deliver(0);
        }
        Check.due("values", x.values(2, 1), 6);
        for (int i = 0; i < 6; i++) {
            Check.due("replica of " + i, x.value(2, 1, i, 0), i);
            Check.due("number of " + i, x.value(2, 1, i, 1), 7 - i);
            Check.due("value of " + i, x.value(2, 1, i, 2), 100 * i + 6 - i);
        }
    }

    private static void equalValuesAreTwo() {
        DotGossip x = new DotGossip();
        x.write(0, 0, 7);
        x.write(1, 0, 7);
        x.gossip(0, 1);
        x.deliver(0);
        Check.due("values", x.values(1, 0), 2);
        Check.due("write over both", x.write(1, 0, 7), 2);
    }

    /** Each writing makes a dot, also of the value that is there. */
    private static void equalValueIsWrittenAnew() {
        DotGossip x = new DotGossip();
        x.write(0, 0, 7);
        x.gossip(0, 1);
        x.deliver(0);
        Check.due("write where another wrote it", x.write(1, 0, 7), 1);
        Check.due("its replica", x.value(1, 0, 0, 0), 1);
        Check.due("its number", x.value(1, 0, 0, 1), 1);
        Check.due("write again", x.write(0, 0, 7), 1);
        Check.due("its next number", x.value(0, 0, 0, 1), 2);
        Check.due("vector", x.vector(0, 0), 2);
        x.gossip(1, 0);
        Check.due("the other's comes", x.deliver(0), 1);
        Check.due("both were written at the same time", x.values(0, 0), 2);
        Check.due("write over both", x.write(0, 0, 7), 2);
        Check.due("the new one's number", x.value(0, 0, 0, 1), 3);
        Check.due("and it alone", x.values(0, 0), 1);
    }

    private static void valueComesWithItsDot() {
        DotGossip x = new DotGossip();
        x.write(0, 3, 1);
        x.gossip(0, 1);
        x.write(0, 3, 2);
        x.gossip(0, 1);
        x.deliver(0);
        Check.due("the value as it was sent", x.value(1, 3, 0, 2), 1);
        x.deliver(0);
        Check.due("the later value alone", x.values(1, 3), 1);
        Check.due("the later value", x.value(1, 3, 0, 2), 2);
    }

    private static void valueWithoutSuch() {
        DotGossip x = new DotGossip();
        three(x);
        for (int i : new int[] {3, 4, 6, -1, Integer.MAX_VALUE, Integer.MIN_VALUE}) {
            Check.due("replica of " + i, x.value(0, 2, i, 0), DotGossip.NONE);
            Check.due("number of " + i, x.value(0, 2, i, 1), DotGossip.NONE);
            Check.due("value of " + i, x.value(0, 2, i, 2), 0);
        }
    }

    private static void wrongInputs() {
        for (int r : NO_REPLICA) {
            refuse(r, 2);
        }
        for (int g : NO_REGISTER) {
            refuse(0, g);
        }
        for (int what : new int[] {-1, 3, 4, Integer.MAX_VALUE, Integer.MIN_VALUE}) {
            Check.illegal("value, what " + what, RegisterTest::three, x -> x.value(0, 2, 0, what));
            Check.illegal("no value, what " + what, RegisterTest::three, x -> x.value(0, 2, 8, what));
        }
    }

    private static void refuse(int r, int g) {
        String at = "(" + r + ", " + g + ")";
        Check.illegal("write" + at, RegisterTest::three, x -> x.write(r, g, 1));
        Check.illegal("values" + at, RegisterTest::three, x -> x.values(r, g));
        Check.illegal("value" + at, RegisterTest::three, x -> x.value(r, g, 0, 2));
        Check.illegal("value without such" + at, RegisterTest::three, x -> x.value(r, g, 9, 0));
    }
}

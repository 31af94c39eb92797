/** Promises 1 and 2: a new object, and write. */
final class NodesTest {
    private static final Class<IndexOutOfBoundsException> BOUNDS = IndexOutOfBoundsException.class;
    private static final Class<IllegalArgumentException> ARGUMENT = IllegalArgumentException.class;
    private static final Check CHECK = new Check("NodesTest");

    public static void main(String[] args) {
        aNewObject();
        writes();
        refusedWrites();
        twoObjectsAreApart();
        CHECK.end();
    }

    private static void aNewObject() {
        PlantServer server = new PlantServer();
        CHECK.due("1: tick", server.tick(), 0);
        CHECK.due("1: requests", server.requests(), 0);
        for (int s = 0; s < 4; s++) {
            int subscription = s;
            CHECK.due("1: isOpen " + s, server.isOpen(s), false);
            CHECK.refuses("1: latest " + s, server, BOUNDS, () -> server.latest(subscription));
        }
        for (int i = 0; i < 16; i++) {
            int item = i;
            CHECK.refuses("1: waiting " + i, server, BOUNDS, () -> server.waiting(item));
        }
        CHECK.due("1: a first request", server.request(), 1);
        CHECK.due("1: nothing is sent without a subscription", server.pass(50), 0);
        CHECK.due("1: the request still waits", server.requests(), 1);
        CHECK.due("1: the first subscription", server.open(1, 1, 1, 0, 1), 0);
        CHECK.due("1: the first item", server.add(0, 0, 1, 1, true, 0), 0);
    }

    private static void writes() {
        PlantServer server = new PlantServer();
        for (int node = 0; node <= 9; node++) {
            CHECK.due("2: first write to " + node, server.write(node, 100 + node), 0);
        }
        for (int node = 0; node <= 9; node++) {
            CHECK.due("2: second write to " + node, server.write(node, 1000), 100 + node);
            CHECK.due("2: third write to " + node, server.write(node, 0), 1000);
            CHECK.due("2: fourth write to " + node, server.write(node, 0), 0);
        }
    }

    private static void refusedWrites() {
        PlantServer server = new PlantServer();
        server.write(0, 7);
        server.write(9, 8);
        for (int node : new int[] {-1, 10, 11, Integer.MIN_VALUE, Integer.MAX_VALUE}) {
            CHECK.refuses("2: write to " + node, server, BOUNDS, () -> server.write(node, 5));
            CHECK.refuses("2: the node is looked at first", server, BOUNDS, () -> server.write(node, -1));
        }
        for (int value : new int[] {-1, 1001, Integer.MIN_VALUE, Integer.MAX_VALUE}) {
            CHECK.refuses("2: write of " + value, server, ARGUMENT, () -> server.write(0, value));
        }
        CHECK.due("2: a refused write changes nothing", server.write(0, 1), 7);
        CHECK.due("2: a refused write changes nothing", server.write(9, 1), 8);
    }

    private static void twoObjectsAreApart() {
        PlantServer one = new PlantServer();
        PlantServer two = new PlantServer();
        one.write(3, 33);
        one.open(1, 1, 1, 0, 1);
        one.request();
        one.pass(1);
        CHECK.due("1: another object's node", two.write(3, 1), 0);
        CHECK.due("1: another object's subscription", two.isOpen(0), false);
        CHECK.due("1: another object's tick", two.tick(), 0);
    }
}

/** What the document says of all calls: questions and refused calls change nothing, and 512 calls are in order. */
final class WholeRunTest {
    private static final int CALLS = 512;
    private static final Class<IndexOutOfBoundsException> BOUNDS = IndexOutOfBoundsException.class;
    private static final Class<IllegalArgumentException> ARGUMENT = IllegalArgumentException.class;
    private static final Class<IllegalStateException> STATE = IllegalStateException.class;
    private static final Class<java.util.NoSuchElementException> ELEMENT = java.util.NoSuchElementException.class;
    private static final Check CHECK = new Check("WholeRunTest");

    public static void main(String[] args) {
        questionsChangeNothing();
        refusedCallsChangeNothing();
        refusedAtTheLimits();
        writesAlone();
        writesWithTicksBetween();
        CHECK.end();
    }

    /** So many calls that all succeed, of each kind; the same ones for the same number of the run. */
    private static Object step(PlantServer server, int step) {
        switch (step % 11) {
            case 0: case 4: return server.write(step % 3, 37 * step % 1001);
            case 1: return server.setReporting(step % 4, step % 3 != 0);
            case 2: return server.link(step % 4, (step + 1) % 4, step % 5 != 0);
            case 3: case 6: return server.requests() < 10 ? server.request() : 10;
            case 5: return server.acknowledge(0, server.latest(0) - step % 4);
            default: return server.pass(1 + step % 3);
        }
    }

    private static PlantServer begun() {
        PlantServer server = new PlantServer();
        server.open(2, 2, 30, 3, 3);
        server.open(3, 1, 30, 4, 2);
        for (int i = 0; i < 4; i++) {
            server.add(0, i % 3, 1 + i, 1 + i, i % 2 == 0, 10 * i);
        }
        server.add(1, 1, 2, 2, false, 0);
        return server;
    }

    private static void questionsChangeNothing() {
        PlantServer asked = begun();
        PlantServer quiet = begun();
        for (int step = 0; step < 220; step++) {
            String picture = Picture.of(asked);
            CHECK.due("questions, asked again", Picture.of(asked), picture);
            CHECK.due("the call behind questions", step(asked, step), step(quiet, step));
        }
        CHECK.due("what stands behind all", Picture.of(asked), Picture.of(quiet));
        CHECK.due("17: there were messages", asked.latest(0) > 5, true);
        CHECK.due("18: there were keep-alives", asked.keepAlives(1) > 0, true);
    }

    private static void refusedCallsChangeNothing() {
        PlantServer tried = begun();
        PlantServer quiet = begun();
        for (int step = 0; step < 220; step++) {
            tryRefused(tried, step);
            CHECK.due("the call behind refused ones", step(tried, step), step(quiet, step));
        }
        CHECK.due("what stands behind all", Picture.of(tried), Picture.of(quiet));
        CHECK.due("3: the next subscription", tried.open(1, 1, 1, 0, 1), 2);
        CHECK.due("5: the next item", tried.add(2, 0, 1, 1, true, 0), 5);
    }

    private static void tryRefused(PlantServer server, int step) {
        switch (step % 8) {
            case 0:
                CHECK.refuses("2: node", server, BOUNDS, () -> server.write(10, 3));
                CHECK.refuses("2: value", server, ARGUMENT, () -> server.write(step % 3, 1001));
                break;
            case 1:
                CHECK.refuses("3: most", server, ARGUMENT, () -> server.open(1, 1, 1, 9, 11));
                CHECK.refuses("4: subscription", server, BOUNDS, () -> server.close(2));
                break;
            case 2:
                CHECK.refuses("5: node", server, BOUNDS, () -> server.add(0, 10, 1, 1, true, 0));
                CHECK.refuses("5: band", server, ARGUMENT, () -> server.add(0, 0, 1, 1, true, 1001));
                break;
            case 3:
                CHECK.refuses("6: item", server, BOUNDS, () -> server.setReporting(5, true));
                CHECK.refuses("7: other", server, BOUNDS, () -> server.link(0, 5, true));
                CHECK.refuses("7: unlike", server, ARGUMENT, () -> server.link(0, 4, true));
                break;
            case 4:
                CHECK.refuses("9: no tick", server, ARGUMENT, () -> server.pass(0));
                CHECK.refuses("9: many ticks", server, ARGUMENT, () -> server.pass(51));
                break;
            case 5:
                CHECK.refuses("12: subscription", server, BOUNDS, () -> server.acknowledge(-1, 1));
                CHECK.refuses("13: subscription", server, BOUNDS, () -> server.size(4, 1));
                break;
            case 6:
                CHECK.refuses("14: message", server, ELEMENT, () -> server.valueAt(0, 0, 0));
                CHECK.refuses("15: place", server, ELEMENT, () -> server.itemAt(0, server.latest(0), 10));
                CHECK.refuses("16: place", server, ELEMENT, () -> server.isMarked(0, server.latest(0), -1));
                break;
            default:
                CHECK.refuses("17: subscription", server, BOUNDS, () -> server.latest(3));
                CHECK.refuses("22: subscription", server, ARGUMENT, () -> server.isOpen(4));
        }
    }

    /** With 4 subscriptions, 16 items and 10 requests, so that one more of each is refused. */
    private static PlantServer full() {
        PlantServer server = new PlantServer();
        for (int s = 0; s < 4; s++) {
            server.open(1 + s, 1 + s, 30, 5 - s % 2, 1 + s);
        }
        for (int i = 0; i < 16; i++) {
            server.add(i % 4, i % 3, 1 + i % 5, 1 + i % 4, i % 2 == 0, i);
        }
        fillRequests(server);
        return server;
    }

    private static void fillRequests(PlantServer server) {
        for (int i = server.requests(); i < 10; i++) {
            server.request();
        }
    }

    private static void refusedAtTheLimits() {
        PlantServer tried = full();
        PlantServer quiet = full();
        for (int step = 0; step < 40; step++) {
            CHECK.refuses("3: a fifth one", tried, STATE, () -> tried.open(1, 1, 1, 9, 1));
            CHECK.refuses("5: a seventeenth one", tried, STATE, () -> tried.add(0, 0, 1, 1, true, 0));
            CHECK.refuses("8: an eleventh one", tried, STATE, tried::request);
            tried.write(step % 3, 20 * step);
            quiet.write(step % 3, 20 * step);
            CHECK.due("the call behind refused ones", tried.pass(1 + step % 3), quiet.pass(1 + step % 3));
            fillRequests(tried);
            fillRequests(quiet);
        }
        CHECK.due("what stands behind all", Picture.of(tried), Picture.of(quiet));
        CHECK.due("22: all are open still", tried.isOpen(0) && tried.isOpen(1) && tried.isOpen(2) && tried.isOpen(3), true);
    }

    /** As many writes as 512 calls leave room for, all at one tick: the last one alone is seen. */
    private static void writesAlone() {
        PlantServer server = new PlantServer();
        server.open(1, 10, 30, 0, 1);
        server.add(0, 0, 1, 4, true, 0);
        int calls = 2;
        int before = 0;
        for (; calls < CALLS - 3; calls++) {
            int value = 1 + calls % 1000;
            CHECK.due("2: the value before", server.write(0, value), before);
            before = value;
        }
        server.pass(1);
        CHECK.due("20: the last write", server.queued(0), 2);
        CHECK.due("21: the last write, by the 512th call", server.queuedByHistory(0), 2);
    }

    /** A sample of each write, until the 512th call. */
    private static void writesWithTicksBetween() {
        PlantServer server = new PlantServer();
        server.open(20, 10, 30, 0, 1);
        server.add(0, 0, 1, 4, true, 0);
        int queued = 1;
        for (int calls = 2; calls < CALLS - 2; calls += 2) {
            server.write(0, queued);
            server.pass(1);
            queued++;
        }
        CHECK.due("20: each write", server.queued(0), queued);
        CHECK.due("21: each write, by the 512th call", server.queuedByHistory(0), queued);
    }
}

/** Promises 8 to 11: request, pass, requests, tick. */
final class TicksTest {
    private static final Class<IllegalArgumentException> ARGUMENT = IllegalArgumentException.class;
    private static final Class<IllegalStateException> STATE = IllegalStateException.class;
    private static final Check CHECK = new Check("TicksTest");

    public static void main(String[] args) {
        requestsWait();
        passes();
        refusedPasses();
        fiveThousandTicks();
        whatAPassTells();
        samplesComeBeforePublishings();
        fiveThousandInWholeSteps();
        oneRequestForTwo();
        CHECK.end();
    }

    private static void requestsWait() {
        PlantServer server = new PlantServer();
        for (int i = 1; i <= 10; i++) {
            CHECK.due("10: before the request " + i, server.requests(), i - 1);
            CHECK.due("8: request " + i, server.request(), i);
        }
        CHECK.refuses("8: an eleventh one", server, STATE, server::request);
        CHECK.due("10: ten wait", server.requests(), 10);
        server.open(1, 1, 1, 0, 1);
        CHECK.due("9: one is used up", server.pass(1), 1);
        CHECK.due("10: nine wait", server.requests(), 9);
        CHECK.due("8: there is room again", server.request(), 10);
    }

    private static void passes() {
        PlantServer server = new PlantServer();
        CHECK.due("9: nothing is sent", server.pass(1), 0);
        CHECK.due("11: the tick", server.tick(), 1);
        CHECK.due("9: nothing is sent", server.pass(50), 0);
        CHECK.due("11: the tick", server.tick(), 51);
        server.request();
        server.write(0, 1);
        CHECK.due("11: no other call lets a tick pass", server.tick(), 51);
    }

    private static void refusedPasses() {
        PlantServer server = new PlantServer();
        server.open(1, 1, 30, 0, 1);
        server.request();
        for (int bad : new int[] {0, -1, 51, Integer.MIN_VALUE, Integer.MAX_VALUE}) {
            CHECK.refuses("9: pass of " + bad, server, ARGUMENT, () -> server.pass(bad));
        }
        CHECK.due("9: the request still waits", server.pass(1), 1);
    }

    private static void fiveThousandTicks() {
        PlantServer server = new PlantServer();
        for (int i = 0; i < 99; i++) {
            server.pass(50);
        }
        server.pass(49);
        CHECK.due("11: one before the last", server.tick(), 4999);
        CHECK.refuses("9: one too many", server, STATE, () -> server.pass(2));
        CHECK.refuses("9: many too many", server, STATE, () -> server.pass(50));
        CHECK.refuses("9: the range is looked at first", server, ARGUMENT, () -> server.pass(51));
        CHECK.due("9: the last one", server.pass(1), 0);
        CHECK.due("11: the last one", server.tick(), 5000);
        CHECK.refuses("9: none is left", server, STATE, () -> server.pass(1));
        CHECK.refuses("9: the range is looked at first", server, ARGUMENT, () -> server.pass(0));
    }

    private static void whatAPassTells() {
        PlantServer server = new PlantServer();
        server.open(1, 1, 30, 0, 1);
        server.open(2, 1, 30, 9, 2);
        server.add(1, 0, 20, 1, true, 0);
        server.add(1, 1, 20, 1, true, 0);
        for (int i = 0; i < 8; i++) {
            server.request();
        }
        CHECK.due("9: messages and keep-alives of both", server.pass(3), 4);
        CHECK.due("17: one message", server.latest(1), 1);
        CHECK.due("13: of two values", server.size(1, 1), 2);
        CHECK.due("18: of the first one", server.keepAlives(0), 3);
        CHECK.due("10: four are left", server.requests(), 4);
        CHECK.due("9: no more than wait", server.pass(50), 4);
        CHECK.due("10: none is left", server.requests(), 0);
    }

    private static void samplesComeBeforePublishings() {
        PlantServer server = new PlantServer();
        server.open(3, 10, 30, 0, 10);
        server.add(0, 0, 3, 4, true, 0);
        server.write(0, 9);
        server.request();
        CHECK.due("9: a message", server.pass(3), 1);
        CHECK.due("13: the sample of the same tick is in it", server.size(0, 1), 2);
        CHECK.due("14: the sample of the same tick is in it", server.valueAt(0, 1, 1), 9);
    }

    private static void fiveThousandInWholeSteps() {
        PlantServer server = new PlantServer();
        server.open(20, 10, 30, 0, 1);
        for (int i = 1; i <= 100; i++) {
            server.pass(50);
            CHECK.due("11: each is counted", server.tick(), 50 * i);
        }
        CHECK.refuses("9: none is left", server, STATE, () -> server.pass(1));
        CHECK.refuses("9: none is left", server, STATE, () -> server.pass(50));
        CHECK.due("8: the other calls go on", server.request(), 1);
        CHECK.due("2: the other calls go on", server.write(0, 1), 0);
    }

    private static void oneRequestForTwo() {
        PlantServer server = new PlantServer();
        server.open(1, 1, 30, 0, 1);
        server.open(1, 1, 30, 0, 1);
        server.request();
        CHECK.due("9: one request, one keep-alive", server.pass(1), 1);
        CHECK.due("10: none waits", server.requests(), 0);
        CHECK.due("9: none waits, none is sent", server.pass(1), 0);
        CHECK.due("10: a row that is empty stays so", server.requests(), 0);
        CHECK.due("8: the next one is the first again", server.request(), 1);
    }
}

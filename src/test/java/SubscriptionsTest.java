/** Promises 3, 4 and 22: open, close, isOpen; and when a subscription publishes, idles, loses and ends. */
final class SubscriptionsTest {
    private static final Class<IndexOutOfBoundsException> BOUNDS = IndexOutOfBoundsException.class;
    private static final Class<IllegalArgumentException> ARGUMENT = IllegalArgumentException.class;
    private static final Class<IllegalStateException> STATE = IllegalStateException.class;
    private static final int[] FAR = {Integer.MIN_VALUE, Integer.MAX_VALUE};
    private static final Check CHECK = new Check("SubscriptionsTest");

    public static void main(String[] args) {
        opens();
        refusedOpens();
        closes();
        whatAClosedOneRefuses();
        isOpen();
        timeBetweenPublishings();
        rowOfIdleOnes();
        lostKeepAliveStaysDue();
        aLostMessageEndsTheIdleRow();
        lifeIsOver();
        idleOnesDoNotEndTheLostRow();
        sendingEndsTheLostRow();
        priorities();
        noFifthBehindOnesThatEnded();
        lifeOfOne();
        lifeEndsWithinOnePass();
        aLostRowOfBothKinds();
        idleNumbers();
        aLostMessageStaysInTheQueues();
        theLastRequestGoesToTheHigherPriority();
        prioritiesAtBothEnds();
        aTimeCountsFromTheOpening();
        requestsOutliveASubscription();
        CHECK.end();
    }

    private static void opens() {
        PlantServer server = new PlantServer();
        CHECK.due("3: the least", server.open(1, 1, 1, 0, 1), 0);
        CHECK.due("3: the most", server.open(20, 10, 30, 9, 10), 1);
        CHECK.due("4: close without items", server.close(0), 0);
        CHECK.due("3: a closed one's number is not used again", server.open(1, 1, 1, 0, 1), 2);
        CHECK.due("3: the last one", server.open(1, 1, 1, 0, 1), 3);
        server.close(3);
        CHECK.refuses("3: a fifth one", server, STATE, () -> server.open(1, 1, 1, 0, 1));
        CHECK.refuses("3: the range is looked at first", server, ARGUMENT, () -> server.open(0, 1, 1, 0, 1));
    }

    private static void refusedOpens() {
        PlantServer server = new PlantServer();
        for (int bad : new int[] {0, 21, -1, FAR[0], FAR[1]}) {
            CHECK.refuses("3: every " + bad, server, ARGUMENT, () -> server.open(bad, 1, 1, 0, 1));
        }
        for (int bad : new int[] {0, 11, -1, FAR[0], FAR[1]}) {
            CHECK.refuses("3: idle " + bad, server, ARGUMENT, () -> server.open(1, bad, 1, 0, 1));
            CHECK.refuses("3: most " + bad, server, ARGUMENT, () -> server.open(1, 1, 1, 0, bad));
        }
        for (int bad : new int[] {0, 31, -1, FAR[0], FAR[1]}) {
            CHECK.refuses("3: life " + bad, server, ARGUMENT, () -> server.open(1, 1, bad, 0, 1));
        }
        for (int bad : new int[] {-1, 10, FAR[0], FAR[1]}) {
            CHECK.refuses("3: priority " + bad, server, ARGUMENT, () -> server.open(1, 1, 1, bad, 1));
        }
        CHECK.due("3: a refused one takes no number", server.open(1, 1, 1, 0, 1), 0);
    }

    private static void closes() {
        PlantServer server = new PlantServer();
        server.open(1, 1, 1, 0, 1);
        server.open(1, 1, 1, 0, 1);
        server.add(0, 0, 1, 1, true, 0);
        server.add(1, 0, 1, 1, true, 0);
        server.add(0, 0, 1, 1, true, 0);
        server.add(0, 0, 1, 1, true, 0);
        CHECK.due("4: close tells its own items", server.close(0), 3);
        CHECK.due("4: the other one stays open", server.isOpen(1), true);
        CHECK.due("4: the other one's item stays", server.waiting(1), 1);
        for (int item : new int[] {0, 2, 3}) {
            CHECK.refuses("4: its item is gone", server, BOUNDS, () -> server.waiting(item));
        }
        CHECK.refuses("4: close again", server, BOUNDS, () -> server.close(0));
        for (int bad : new int[] {-1, 2, 3, 4, FAR[0], FAR[1]}) {
            CHECK.refuses("4: close of " + bad, server, BOUNDS, () -> server.close(bad));
        }
        CHECK.due("4: close of the last", server.close(1), 1);
    }

    private static void whatAClosedOneRefuses() {
        PlantServer server = new PlantServer();
        server.open(1, 1, 1, 0, 10);
        server.add(0, 0, 1, 4, true, 0);
        server.add(0, 1, 1, 4, true, 0);
        server.request();
        server.pass(1);
        CHECK.due("9: a message was sent", server.size(0, 1), 2);
        server.close(0);
        CHECK.refuses("5: add", server, BOUNDS, () -> server.add(0, 0, 1, 1, true, 0));
        CHECK.refuses("6: setReporting", server, BOUNDS, () -> server.setReporting(0, false));
        CHECK.refuses("7: link", server, BOUNDS, () -> server.link(0, 1, true));
        CHECK.refuses("12: acknowledge", server, BOUNDS, () -> server.acknowledge(0, 1));
        CHECK.refuses("13: size", server, BOUNDS, () -> server.size(0, 1));
        CHECK.refuses("14: valueAt", server, BOUNDS, () -> server.valueAt(0, 1, 0));
        CHECK.refuses("15: itemAt", server, BOUNDS, () -> server.itemAt(0, 1, 0));
        CHECK.refuses("16: isMarked", server, BOUNDS, () -> server.isMarked(0, 1, 0));
        CHECK.refuses("17: latest", server, BOUNDS, () -> server.latest(0));
        CHECK.refuses("18: keepAlives", server, BOUNDS, () -> server.keepAlives(0));
        CHECK.refuses("19: waiting", server, BOUNDS, () -> server.waiting(0));
        CHECK.refuses("20: queued", server, BOUNDS, () -> server.queued(0));
        CHECK.refuses("21: queuedByHistory", server, BOUNDS, () -> server.queuedByHistory(0));
        server.request();
        CHECK.due("4: a closed one sends nothing", server.pass(50), 0);
        CHECK.due("4: a closed one uses no request", server.requests(), 1);
    }

    private static void isOpen() {
        PlantServer server = new PlantServer();
        CHECK.due("22: before it is opened", server.isOpen(3), false);
        for (int s = 0; s < 4; s++) {
            server.open(1, 1, 30, 0, 1);
            CHECK.due("22: opened " + s, server.isOpen(s), true);
        }
        server.close(2);
        CHECK.due("22: closed", server.isOpen(2), false);
        CHECK.due("22: another one", server.isOpen(3), true);
        for (int bad : new int[] {-1, 4, FAR[0], FAR[1]}) {
            CHECK.refuses("22: isOpen of " + bad, server, ARGUMENT, () -> server.isOpen(bad));
        }
    }

    private static void timeBetweenPublishings() {
        PlantServer server = new PlantServer();
        fillRequests(server);
        server.pass(2);
        server.open(20, 1, 1, 0, 1);
        server.pass(1);
        server.open(3, 1, 1, 0, 1);
        CHECK.due("9: before any time has passed", server.pass(2), 0);
        CHECK.due("9: at the tick 6, three after the second one was opened", server.pass(1), 1);
        CHECK.due("9: the second one's next tick is 9", server.pass(2), 0);
        CHECK.due("9: it is that", server.pass(1), 1);
        CHECK.due("9: 12, 15, 18, 21", server.pass(12), 4);
        CHECK.due("18: the first one has none yet", server.keepAlives(0), 0);
        CHECK.due("9: the first one at the tick 22", server.pass(1), 1);
        CHECK.due("18: the first one", server.keepAlives(0), 1);
        CHECK.due("18: the second one", server.keepAlives(1), 6);
    }

    private static void rowOfIdleOnes() {
        PlantServer server = new PlantServer();
        server.open(1, 3, 1, 0, 10);
        fillRequests(server);
        CHECK.due("9: two idle ones", server.pass(2), 0);
        CHECK.due("9: a third one", server.pass(1), 1);
        CHECK.due("9: counted anew behind a keep-alive", server.pass(2), 0);
        server.add(0, 0, 20, 1, true, 0);
        CHECK.due("9: a message", server.pass(1), 1);
        CHECK.due("18: no keep-alive with it", server.keepAlives(0), 1);
        CHECK.due("9: counted anew behind a message", server.pass(2), 0);
        CHECK.due("9: a third one behind the message", server.pass(1), 1);
        CHECK.due("18: of that", server.keepAlives(0), 2);
        CHECK.due("17: a keep-alive has no number", server.latest(0), 1);
        CHECK.due("10: three were used up", server.requests(), 7);
    }

    private static void lostKeepAliveStaysDue() {
        PlantServer server = new PlantServer();
        server.open(1, 3, 30, 0, 1);
        CHECK.due("9: the fourth idle one is lost too", server.pass(4), 0);
        server.request();
        CHECK.due("9: with a request the fifth one is sent", server.pass(1), 1);
        CHECK.due("18: it is a keep-alive", server.keepAlives(0), 1);
        server.request();
        CHECK.due("9: behind it two idle ones again", server.pass(2), 0);
        CHECK.due("9: then the next", server.pass(1), 1);
    }

    private static void aLostMessageEndsTheIdleRow() {
        PlantServer server = new PlantServer();
        server.open(1, 2, 30, 0, 1);
        server.pass(1);
        server.add(0, 0, 20, 1, true, 0);
        CHECK.due("9: the message is lost", server.pass(1), 0);
        CHECK.due("6: nothing is told any more", server.setReporting(0, false), true);
        server.request();
        CHECK.due("9: one idle one alone behind the lost message", server.pass(1), 0);
        CHECK.due("9: two", server.pass(1), 1);
        CHECK.due("18: a keep-alive", server.keepAlives(0), 1);
        CHECK.due("17: no message", server.latest(0), 0);
    }

    private static void lifeIsOver() {
        PlantServer server = new PlantServer();
        server.open(2, 1, 3, 0, 1);
        server.open(2, 1, 30, 0, 1);
        server.open(1, 10, 30, 0, 1);
        server.add(0, 0, 1, 1, true, 0);
        server.add(1, 0, 1, 1, true, 0);
        server.pass(5);
        CHECK.due("22: two are lost", server.isOpen(0), true);
        server.pass(1);
        CHECK.due("22: three are lost", server.isOpen(0), false);
        CHECK.refuses("4: its life is over", server, BOUNDS, () -> server.close(0));
        CHECK.refuses("19: its item is gone with it", server, BOUNDS, () -> server.waiting(0));
        CHECK.due("22: a longer life", server.isOpen(1), true);
        CHECK.due("19: its item is not gone", server.waiting(1), 1);
        server.pass(50);
        CHECK.due("22: after 28", server.isOpen(1), true);
        server.pass(3);
        CHECK.due("22: after 29", server.isOpen(1), true);
        server.pass(1);
        CHECK.due("22: after 30", server.isOpen(1), false);
    }

    private static void idleOnesDoNotEndTheLostRow() {
        PlantServer server = new PlantServer();
        server.open(1, 10, 2, 0, 1);
        server.add(0, 0, 20, 1, true, 0);
        server.pass(1);
        server.setReporting(0, false);
        server.pass(5);
        CHECK.due("22: idle ones are not lost", server.isOpen(0), true);
        server.setReporting(0, true);
        server.pass(1);
        CHECK.due("22: idle ones do not end the row", server.isOpen(0), false);
    }

    private static void sendingEndsTheLostRow() {
        PlantServer server = new PlantServer();
        server.open(1, 1, 2, 0, 1);
        server.pass(1);
        server.request();
        CHECK.due("9: a keep-alive", server.pass(1), 1);
        server.pass(1);
        CHECK.due("22: a keep-alive ended the row", server.isOpen(0), true);
        server.add(0, 0, 20, 1, true, 0);
        server.request();
        CHECK.due("9: a message", server.pass(1), 1);
        server.pass(1);
        CHECK.due("22: a message ended the row", server.isOpen(0), true);
        server.pass(1);
        CHECK.due("22: two lost ones", server.isOpen(0), false);
    }

    private static void priorities() {
        PlantServer server = new PlantServer();
        server.open(1, 1, 30, 3, 1);
        server.open(1, 1, 30, 9, 1);
        server.open(1, 1, 30, 3, 1);
        server.open(1, 1, 30, 4, 1);
        int[] order = {1, 3, 0, 2};
        int[] sent = new int[4];
        for (int requests = 1; requests <= 4; requests++) {
            for (int i = 0; i < requests; i++) {
                server.request();
            }
            CHECK.due("9: all requests are used up", server.pass(1), requests);
            for (int i = 0; i < requests; i++) {
                sent[order[i]]++;
            }
            for (int s = 0; s < 4; s++) {
                CHECK.due("9: keep-alives of " + s + " with " + requests, server.keepAlives(s), sent[s]);
            }
        }
        server.close(1);
        server.request();
        server.pass(1);
        CHECK.due("9: the next priority behind a closed one", server.keepAlives(3), sent[3] + 1);
    }

    private static void fillRequests(PlantServer server) {
        for (int i = 0; i < 10; i++) {
            server.request();
        }
    }

    private static void noFifthBehindOnesThatEnded() {
        PlantServer server = new PlantServer();
        for (int s = 0; s < 4; s++) {
            CHECK.due("3: opened", server.open(1, 1, 1, 0, 1), s);
            server.pass(1);
            CHECK.due("22: its life is over", server.isOpen(s), false);
        }
        CHECK.refuses("3: a fifth one, though no life lasts", server, STATE, () -> server.open(1, 1, 1, 0, 1));
    }

    private static void lifeOfOne() {
        PlantServer server = new PlantServer();
        server.open(1, 10, 1, 0, 1);
        server.pass(9);
        CHECK.due("22: nothing was due, nothing is lost", server.isOpen(0), true);
        server.add(0, 0, 1, 1, true, 0);
        CHECK.due("9: a message that is lost is not counted", server.pass(1), 0);
        CHECK.due("22: the first lost message closes", server.isOpen(0), false);
        CHECK.refuses("19: the item is gone", server, BOUNDS, () -> server.waiting(0));
        server.open(1, 1, 1, 0, 1);
        CHECK.due("9: a keep-alive that is lost is not counted", server.pass(1), 0);
        CHECK.due("22: the first lost keep-alive closes", server.isOpen(1), false);
    }

    private static void lifeEndsWithinOnePass() {
        PlantServer server = new PlantServer();
        server.open(2, 1, 3, 0, 1);
        server.open(7, 1, 30, 0, 1);
        CHECK.due("9: nothing is sent", server.pass(50), 0);
        CHECK.due("22: closed at the tick 6", server.isOpen(0), false);
        CHECK.due("22: seven lost of 30", server.isOpen(1), true);
        CHECK.due("11: all ticks pass", server.tick(), 50);
    }

    private static void aLostRowOfBothKinds() {
        PlantServer server = new PlantServer();
        server.open(1, 2, 3, 0, 1);
        server.add(0, 0, 20, 1, true, 0);
        server.pass(1);
        server.setReporting(0, false);
        server.pass(2);
        CHECK.due("22: a message and a keep-alive are lost", server.isOpen(0), true);
        server.setReporting(0, true);
        server.pass(1);
        CHECK.due("22: the third one in the row", server.isOpen(0), false);
    }

    private static void idleNumbers() {
        for (int idle = 1; idle <= 10; idle++) {
            PlantServer server = new PlantServer();
            server.open(2, idle, 1, 0, 1);
            fillRequests(server);
            CHECK.due("9: one tick before, number " + idle, server.pass(2 * idle - 1), 0);
            CHECK.due("9: as many as its number " + idle, server.pass(1), 1);
            CHECK.due("9: anew, one tick before, number " + idle, server.pass(2 * idle - 1), 0);
            CHECK.due("9: anew, number " + idle, server.pass(1), 1);
            CHECK.due("18: number " + idle, server.keepAlives(0), 2);
        }
    }

    private static void aLostMessageStaysInTheQueues() {
        PlantServer server = new PlantServer();
        server.open(1, 10, 30, 0, 10);
        server.add(0, 0, 1, 4, true, 0);
        server.write(0, 5);
        server.pass(3);
        CHECK.due("17: a lost message has no number", server.latest(0), 0);
        CHECK.due("19: nothing is taken", server.waiting(0), 2);
        server.request();
        CHECK.due("9: it is sent later", server.pass(1), 1);
        CHECK.due("17: with the number 1", server.latest(0), 1);
        CHECK.due("13: with all", server.size(0, 1), 2);
        CHECK.due("19: all is taken", server.waiting(0), 0);
    }

    private static void theLastRequestGoesToTheHigherPriority() {
        PlantServer server = new PlantServer();
        server.open(1, 1, 1, 4, 1);
        server.open(1, 1, 1, 5, 1);
        server.open(1, 1, 1, 5, 1);
        server.request();
        server.request();
        CHECK.due("9: both requests are used", server.pass(1), 2);
        CHECK.due("22: the lowest priority has none and is over", server.isOpen(0), false);
        server.request();
        CHECK.due("9: one request", server.pass(1), 1);
        CHECK.due("22: of one priority the lower number has it", server.isOpen(1), true);
        CHECK.due("22: the higher number is over", server.isOpen(2), false);
        CHECK.due("18: the lower number had two", server.keepAlives(1), 2);
    }

    private static void prioritiesAtBothEnds() {
        PlantServer server = new PlantServer();
        server.open(1, 1, 30, 0, 1);
        server.open(1, 1, 30, 9, 1);
        server.open(1, 1, 30, 8, 1);
        server.open(1, 1, 30, 1, 1);
        int[] order = {1, 2, 3, 0};
        for (int requests = 1; requests <= 4; requests++) {
            for (int i = 0; i < requests; i++) {
                server.request();
            }
            server.pass(1);
            CHECK.due("9: the last one that is served", server.keepAlives(order[requests - 1]), 1);
        }
    }

    private static void aTimeCountsFromTheOpening() {
        for (int every = 1; every <= 20; every++) {
            PlantServer server = new PlantServer();
            fillRequests(server);
            server.pass(7);
            server.open(every, 1, 1, 0, 1);
            if (every > 1) {
                CHECK.due("9: before its time of " + every, server.pass(every - 1), 0);
            }
            CHECK.due("9: at its time of " + every, server.pass(1), 1);
            CHECK.due("9: and again", server.pass(2 * every), 2);
        }
    }

    private static void requestsOutliveASubscription() {
        PlantServer server = new PlantServer();
        server.open(1, 1, 1, 0, 1);
        fillRequests(server);
        server.close(0);
        CHECK.due("10: they wait for all subscriptions", server.requests(), 10);
        CHECK.refuses("8: they are still ten", server, STATE, server::request);
        server.open(1, 1, 1, 0, 1);
        CHECK.due("9: another one uses them", server.pass(4), 4);
        CHECK.due("10: six are left", server.requests(), 6);
    }
}

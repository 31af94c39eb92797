/** Promises 12 to 18: acknowledge, size, valueAt, itemAt, isMarked, latest, keepAlives. */
final class MessagesTest {
    private static final Class<IndexOutOfBoundsException> BOUNDS = IndexOutOfBoundsException.class;
    private static final Class<java.util.NoSuchElementException> ELEMENT = java.util.NoSuchElementException.class;
    private static final int[] FAR = {Integer.MIN_VALUE, Integer.MAX_VALUE};
    private static final Check CHECK = new Check("MessagesTest");

    public static void main(String[] args) {
        whatAMessageHas();
        placesThatAreNotThere();
        theMostOfValues();
        tenValues();
        numbersOfMessages();
        fiveAreKept();
        acknowledged();
        acknowledgedFromTheMiddle();
        messagesOfEachSubscription();
        noSuchSubscription();
        keepAlivesAreCounted();
        justTheMost();
        aMostOfOne();
        leftInFullMessage();
        placesOfASmallerMessage();
        keepAlivesTakeNoPlace();
        fiveOfEachSubscription();
        acknowledgedAtBothEnds();
        CHECK.end();
    }

    /** One subscription, with an item on each of so many nodes. */
    private static PlantServer withItems(int count, int most) {
        PlantServer server = new PlantServer();
        server.open(1, 10, 30, 0, most);
        for (int i = 0; i < count; i++) {
            server.add(0, i, 1, 4, true, 0);
        }
        return server;
    }

    private static void send(PlantServer server) {
        server.request();
        server.pass(1);
    }

    private static String values(PlantServer server, int subscription, int message) {
        StringBuilder text = new StringBuilder();
        for (int place = 0; place < server.size(subscription, message); place++) {
            text.append(server.itemAt(subscription, message, place)).append(':');
            text.append(server.valueAt(subscription, message, place));
            text.append(server.isMarked(subscription, message, place) ? "! " : " ");
        }
        return text.toString();
    }

    private static void whatAMessageHas() {
        PlantServer server = withItems(3, 10);
        server.write(0, 10);
        server.write(2, 12);
        server.pass(1);
        server.write(0, 20);
        send(server);
        CHECK.due("13: its size", server.size(0, 1), 6);
        CHECK.due("14 to 16: its values", values(server, 0, 1), "0:0 0:10 0:20 1:0 2:0 2:12 ");
        CHECK.due("19: they are taken from the queue", server.waiting(0), 0);
        CHECK.due("20: they stay counted", server.queued(0), 3);
    }

    private static void placesThatAreNotThere() {
        PlantServer server = withItems(2, 10);
        send(server);
        for (int bad : new int[] {-1, 2, 3, 9, 10, FAR[0], FAR[1]}) {
            CHECK.refuses("14: place " + bad, server, ELEMENT, () -> server.valueAt(0, 1, bad));
            CHECK.refuses("15: place " + bad, server, ELEMENT, () -> server.itemAt(0, 1, bad));
            CHECK.refuses("16: place " + bad, server, ELEMENT, () -> server.isMarked(0, 1, bad));
        }
        for (int bad : new int[] {-1, 0, 2, 5, FAR[0], FAR[1]}) {
            CHECK.due("13: message " + bad, server.size(0, bad), PlantServer.NONE);
            CHECK.refuses("14: message " + bad, server, ELEMENT, () -> server.valueAt(0, bad, 0));
            CHECK.refuses("15: message " + bad, server, ELEMENT, () -> server.itemAt(0, bad, 0));
            CHECK.refuses("16: message " + bad, server, ELEMENT, () -> server.isMarked(0, bad, 0));
            CHECK.due("12: message " + bad, server.acknowledge(0, bad), false);
        }
        CHECK.due("14: the last place", server.valueAt(0, 1, 1), 0);
        CHECK.due("15: the last place", server.itemAt(0, 1, 1), 1);
    }

    private static void theMostOfValues() {
        PlantServer server = withItems(3, 4);
        for (int i = 0; i < 3; i++) {
            server.write(i, 10 + i);
        }
        server.pass(1);
        server.write(0, 20);
        send(server);
        CHECK.due("9: four of seven", values(server, 0, 1), "0:0 0:10 0:20 1:0 ");
        CHECK.due("19: the others wait", server.waiting(1), 1);
        CHECK.due("19: the others wait", server.waiting(2), 2);
        server.write(0, 30);
        send(server);
        CHECK.due("9: the first item comes first again", values(server, 0, 2), "0:30 1:11 2:0 2:12 ");
        CHECK.due("9: nothing is left", server.waiting(2), 0);
    }

    private static void tenValues() {
        PlantServer server = withItems(10, 10);
        for (int i = 0; i < 10; i++) {
            server.write(i, 100 + i);
        }
        server.setReporting(0, false);
        send(server);
        CHECK.due("13: ten", server.size(0, 1), 10);
        CHECK.due("14 to 16: ten", values(server, 0, 1), "1:0 1:101 2:0 2:102 3:0 3:103 4:0 4:104 5:0 5:105 ");
        CHECK.due("14: the tenth", server.valueAt(0, 1, 9), 105);
        CHECK.refuses("14: an eleventh", server, ELEMENT, () -> server.valueAt(0, 1, 10));
    }

    private static void numbersOfMessages() {
        PlantServer server = withItems(1, 10);
        CHECK.due("17: none yet", server.latest(0), 0);
        server.pass(1);
        CHECK.due("17: a lost one has no number", server.latest(0), 0);
        for (int i = 1; i <= 12; i++) {
            server.write(0, i);
            send(server);
            CHECK.due("17: latest", server.latest(0), i);
        }
        server.acknowledge(0, 12);
        CHECK.due("17: also when it is acknowledged", server.latest(0), 12);
        server.write(0, 0);
        send(server);
        CHECK.due("17: the next", server.latest(0), 13);
    }

    private static void fiveAreKept() {
        PlantServer server = withItems(1, 10);
        for (int i = 1; i <= 5; i++) {
            server.write(0, 10 * i);
            send(server);
        }
        CHECK.due("13: all five", kept(server, 0, 9), "1 2 3 4 5 ");
        server.write(0, 60);
        send(server);
        CHECK.due("13: with a sixth one the oldest is gone", kept(server, 0, 9), "2 3 4 5 6 ");
        CHECK.due("13: NONE", server.size(0, 1), PlantServer.NONE);
        CHECK.refuses("14: it is not kept", server, ELEMENT, () -> server.valueAt(0, 1, 0));
        CHECK.due("12: it is not kept", server.acknowledge(0, 1), false);
        for (int i = 2; i <= 6; i++) {
            CHECK.due("14: the value of " + i, server.valueAt(0, i, 0), 10 * i);
        }
    }

    private static String kept(PlantServer server, int subscription, int upTo) {
        StringBuilder text = new StringBuilder();
        for (int message = -1; message <= upTo; message++) {
            if (server.size(subscription, message) != PlantServer.NONE) {
                text.append(message).append(' ');
            }
        }
        return text.toString();
    }

    private static void acknowledged() {
        PlantServer server = withItems(1, 10);
        send(server);
        CHECK.due("12: it was kept", server.acknowledge(0, 1), true);
        CHECK.due("12: not any more", server.acknowledge(0, 1), false);
        CHECK.due("13: not any more", server.size(0, 1), PlantServer.NONE);
        CHECK.refuses("14: not any more", server, ELEMENT, () -> server.valueAt(0, 1, 0));
        CHECK.refuses("15: not any more", server, ELEMENT, () -> server.itemAt(0, 1, 0));
        CHECK.refuses("16: not any more", server, ELEMENT, () -> server.isMarked(0, 1, 0));
    }

    private static void acknowledgedFromTheMiddle() {
        PlantServer server = withItems(1, 10);
        for (int i = 1; i <= 5; i++) {
            server.write(0, 10 * i);
            send(server);
        }
        CHECK.due("12: one in the middle", server.acknowledge(0, 3), true);
        CHECK.due("13: the others", kept(server, 0, 9), "1 2 4 5 ");
        server.write(0, 60);
        send(server);
        CHECK.due("13: there was room", kept(server, 0, 9), "1 2 4 5 6 ");
        CHECK.due("12: the oldest", server.acknowledge(0, 1), true);
        server.write(0, 70);
        send(server);
        server.write(0, 80);
        send(server);
        CHECK.due("13: the oldest that is still kept goes", kept(server, 0, 9), "4 5 6 7 8 ");
        for (int i = 4; i <= 8; i++) {
            CHECK.due("14: the value of " + i, server.valueAt(0, i, 0), 10 * i);
            CHECK.due("12: " + i, server.acknowledge(0, i), true);
        }
        CHECK.due("13: none is left", kept(server, 0, 9), "");
    }

    private static void messagesOfEachSubscription() {
        PlantServer server = new PlantServer();
        server.open(1, 10, 30, 0, 1);
        server.open(2, 10, 30, 0, 1);
        server.add(1, 5, 1, 4, true, 0);
        server.add(0, 4, 1, 4, true, 0);
        server.write(4, 44);
        for (int i = 0; i < 3; i++) {
            server.request();
        }
        CHECK.due("9: all are used", server.pass(2), 3);
        CHECK.due("17: of the first", server.latest(0), 2);
        CHECK.due("17: of the second", server.latest(1), 1);
        CHECK.due("14 to 16: of the first", values(server, 0, 1) + values(server, 0, 2), "1:0 1:44 ");
        CHECK.due("14 to 16: of the second", values(server, 1, 1), "0:0 ");
        server.acknowledge(0, 1);
        CHECK.due("13: the second one's is kept", server.size(1, 1), 1);
    }

    private static void noSuchSubscription() {
        PlantServer server = withItems(1, 10);
        send(server);
        for (int bad : new int[] {-1, 1, 3, 4, FAR[0], FAR[1]}) {
            CHECK.refuses("12: of " + bad, server, BOUNDS, () -> server.acknowledge(bad, 1));
            CHECK.refuses("13: of " + bad, server, BOUNDS, () -> server.size(bad, 1));
            CHECK.refuses("14: of " + bad, server, BOUNDS, () -> server.valueAt(bad, 1, 0));
            CHECK.refuses("14: it is looked at first", server, BOUNDS, () -> server.valueAt(bad, 9, -1));
            CHECK.refuses("15: of " + bad, server, BOUNDS, () -> server.itemAt(bad, 1, 0));
            CHECK.refuses("15: it is looked at first", server, BOUNDS, () -> server.itemAt(bad, 9, -1));
            CHECK.refuses("16: of " + bad, server, BOUNDS, () -> server.isMarked(bad, 1, 0));
            CHECK.refuses("16: it is looked at first", server, BOUNDS, () -> server.isMarked(bad, 9, -1));
            CHECK.refuses("17: of " + bad, server, BOUNDS, () -> server.latest(bad));
            CHECK.refuses("18: of " + bad, server, BOUNDS, () -> server.keepAlives(bad));
        }
    }

    private static void keepAlivesAreCounted() {
        PlantServer server = new PlantServer();
        server.open(1, 2, 30, 0, 1);
        CHECK.due("18: none yet", server.keepAlives(0), 0);
        server.pass(2);
        CHECK.due("18: a lost one is not counted", server.keepAlives(0), 0);
        server.request();
        server.pass(1);
        CHECK.due("18: one", server.keepAlives(0), 1);
        CHECK.due("17: it is no message", server.latest(0), 0);
        CHECK.due("13: nothing is kept of it", server.size(0, 1), PlantServer.NONE);
        server.request();
        server.request();
        CHECK.due("9: two more", server.pass(4), 2);
        CHECK.due("18: three", server.keepAlives(0), 3);
    }

    private static void justTheMost() {
        PlantServer server = withItems(3, 3);
        send(server);
        CHECK.due("13: as many as the most", server.size(0, 1), 3);
        CHECK.due("19: nothing is left", server.waiting(2), 0);
        server.request();
        CHECK.due("9: so the next publishing is idle", server.pass(1), 0);
    }

    private static void aMostOfOne() {
        PlantServer server = withItems(2, 1);
        server.write(0, 7);
        send(server);
        send(server);
        send(server);
        String all = values(server, 0, 1) + values(server, 0, 2) + values(server, 0, 3);
        CHECK.due("9: one value in each message", all, "0:0 0:7 1:0 ");
        CHECK.due("13: one", server.size(0, 3), 1);
    }

    private static void leftInFullMessage() {
        PlantServer server = withItems(2, 1);
        send(server);
        CHECK.due("19: the second item was told, but there was no place", server.waiting(1), 1);
        server.setReporting(1, false);
        server.request();
        CHECK.due("9: what is left of a silent one is not told", server.pass(1), 0);
        server.setReporting(1, true);
        CHECK.due("9: it is told when it reports", server.pass(1), 1);
        CHECK.due("15: its value", values(server, 0, 2), "1:0 ");
    }

    private static void placesOfASmallerMessage() {
        PlantServer server = withItems(3, 10);
        send(server);
        server.acknowledge(0, 1);
        server.write(1, 5);
        send(server);
        CHECK.due("13: one value", values(server, 0, 2), "1:5 ");
        CHECK.refuses("14: no place of an earlier one", server, ELEMENT, () -> server.valueAt(0, 2, 1));
        CHECK.refuses("15: no place of an earlier one", server, ELEMENT, () -> server.itemAt(0, 2, 1));
        CHECK.refuses("16: no place of an earlier one", server, ELEMENT, () -> server.isMarked(0, 2, 1));
    }

    private static void keepAlivesTakeNoPlace() {
        PlantServer server = new PlantServer();
        server.open(1, 1, 30, 0, 10);
        server.add(0, 0, 1, 4, true, 0);
        send(server);
        for (int i = 2; i <= 5; i++) {
            server.write(0, i);
            send(server);
        }
        for (int i = 1; i <= 6; i++) {
            send(server);
            CHECK.due("18: keep-alives", server.keepAlives(0), i);
        }
        CHECK.due("13: five messages are kept", kept(server, 0, 12), "1 2 3 4 5 ");
        server.write(0, 6);
        send(server);
        CHECK.due("17: keep-alives take no number", server.latest(0), 6);
    }

    private static void fiveOfEachSubscription() {
        PlantServer server = new PlantServer();
        for (int s = 0; s < 4; s++) {
            server.open(1, 10, 30, 0, 10);
            server.add(s, s, 1, 4, true, 0);
        }
        for (int i = 1; i <= 5; i++) {
            for (int s = 0; s < 4; s++) {
                server.write(s, 10 * i + s);
                server.request();
            }
            CHECK.due("9: a message of each", server.pass(1), 4);
        }
        server.write(2, 62);
        server.request();
        CHECK.due("9: a sixth one of one of them", server.pass(1), 1);
        for (int s = 0; s < 4; s++) {
            CHECK.due("13: five are kept of each", kept(server, s, 9), s == 2 ? "2 3 4 5 6 " : "1 2 3 4 5 ");
            CHECK.due("14: each has its own", server.valueAt(s, 5, 0), 50 + s);
        }
    }

    private static void acknowledgedAtBothEnds() {
        PlantServer server = withItems(1, 10);
        for (int i = 1; i <= 5; i++) {
            server.write(0, 10 * i);
            send(server);
        }
        CHECK.due("12: the latest", server.acknowledge(0, 5), true);
        CHECK.due("12: the first", server.acknowledge(0, 1), true);
        CHECK.due("13: those between", kept(server, 0, 9), "2 3 4 ");
        CHECK.due("17: the latest one's number stays", server.latest(0), 5);
        for (int i = 6; i <= 8; i++) {
            server.write(0, 10 * i);
            send(server);
        }
        CHECK.due("13: five again", kept(server, 0, 9), "3 4 6 7 8 ");
    }
}

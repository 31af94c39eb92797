/** Promises 5, 6 and 7: add, setReporting, link; and which items are told. */
final class ItemsTest {
    private static final Class<IndexOutOfBoundsException> BOUNDS = IndexOutOfBoundsException.class;
    private static final Class<IllegalArgumentException> ARGUMENT = IllegalArgumentException.class;
    private static final Class<IllegalStateException> STATE = IllegalStateException.class;
    private static final int[] FAR = {Integer.MIN_VALUE, Integer.MAX_VALUE};
    private static final Check CHECK = new Check("ItemsTest");

    public static void main(String[] args) {
        adds();
        refusedAdds();
        aSixteenthItem();
        setsReporting();
        links();
        refusedLinks();
        whoIsTold();
        triggersGoOneStep();
        aTriggerNeedsReportingAndASample();
        aTriggeredItemNeedsASample();
        unlinking();
        refusedAddsWhenFull();
        everySizeAndBand();
        twoThatTriggerEachOther();
        aTriggeredOneAddsToItsOwn();
        itemsOfAnEndedLife();
        linksOfGoneItems();
        CHECK.end();
    }

    private static PlantServer opened() {
        PlantServer server = new PlantServer();
        server.open(1, 10, 30, 0, 10);
        return server;
    }

    private static void adds() {
        PlantServer server = opened();
        server.write(9, 77);
        CHECK.due("5: the least", server.add(0, 0, 1, 1, false, 0), 0);
        CHECK.due("5: the most", server.add(0, 9, 20, 4, true, 1000), 1);
        CHECK.due("19: it samples when it is added", server.waiting(1), 1);
        server.request();
        server.pass(1);
        CHECK.due("13: both report at first", server.size(0, 1), 2);
        CHECK.due("14: the sample when it was added", server.valueAt(0, 1, 1), 77);
    }

    private static void refusedAdds() {
        PlantServer server = opened();
        for (int bad : new int[] {-1, 1, 4, FAR[0], FAR[1]}) {
            CHECK.refuses("5: subscription " + bad, server, BOUNDS, () -> server.add(bad, 0, 1, 1, true, 0));
            CHECK.refuses("5: it is looked at first", server, BOUNDS, () -> server.add(bad, 0, 0, 0, true, -1));
        }
        for (int bad : new int[] {-1, 10, FAR[0], FAR[1]}) {
            CHECK.refuses("5: node " + bad, server, BOUNDS, () -> server.add(0, bad, 1, 1, true, 0));
            CHECK.refuses("5: it is looked at first", server, BOUNDS, () -> server.add(0, bad, 0, 0, true, -1));
        }
        for (int bad : new int[] {0, 21, -1, FAR[0], FAR[1]}) {
            CHECK.refuses("5: every " + bad, server, ARGUMENT, () -> server.add(0, 0, bad, 1, true, 0));
        }
        for (int bad : new int[] {0, 5, -1, FAR[0], FAR[1]}) {
            CHECK.refuses("5: size " + bad, server, ARGUMENT, () -> server.add(0, 0, 1, bad, true, 0));
        }
        for (int bad : new int[] {-1, 1001, FAR[0], FAR[1]}) {
            CHECK.refuses("5: band " + bad, server, ARGUMENT, () -> server.add(0, 0, 1, 1, true, bad));
        }
        CHECK.due("5: a refused one takes no number", server.add(0, 0, 1, 1, true, 0), 0);
        CHECK.due("4: and is not of the subscription", server.close(0), 1);
    }

    private static void aSixteenthItem() {
        PlantServer server = opened();
        server.open(1, 10, 30, 0, 1);
        for (int i = 0; i < 15; i++) {
            CHECK.due("5: item " + i, server.add(i % 2, 0, 1, 1, true, 0), i);
        }
        server.close(0);
        CHECK.due("5: the last one", server.add(1, 0, 1, 1, true, 0), 15);
        CHECK.refuses("5: one more, though some are gone", server, STATE, () -> server.add(1, 0, 1, 1, true, 0));
        CHECK.refuses("5: the range is looked at first", server, ARGUMENT, () -> server.add(1, 0, 1, 1, true, -1));
        CHECK.refuses("5: the node is looked at first", server, BOUNDS, () -> server.add(1, 10, 1, 1, true, 0));
        CHECK.due("19: the last one is there", server.waiting(15), 1);
        CHECK.due("4: its items", server.close(1), 8);
    }

    private static void setsReporting() {
        PlantServer server = opened();
        server.add(0, 0, 20, 1, true, 0);
        server.add(0, 0, 20, 1, true, 0);
        CHECK.due("6: it reports already", server.setReporting(0, true), false);
        CHECK.due("6: not any more", server.setReporting(0, false), true);
        CHECK.due("6: not any more, again", server.setReporting(0, false), false);
        server.request();
        server.pass(1);
        CHECK.due("13: only the other one is told", server.size(0, 1), 1);
        CHECK.due("15: only the other one is told", server.itemAt(0, 1, 0), 1);
        CHECK.due("19: the silent one keeps its sample", server.waiting(0), 1);
        CHECK.due("6: it does again", server.setReporting(0, true), true);
        server.request();
        CHECK.due("9: now it is told", server.pass(1), 1);
        CHECK.due("15: now it is told", server.itemAt(0, 2, 0), 0);
        for (int bad : new int[] {-1, 2, 15, 16, FAR[0], FAR[1]}) {
            CHECK.refuses("6: setReporting of " + bad, server, BOUNDS, () -> server.setReporting(bad, true));
        }
    }

    private static void links() {
        PlantServer server = opened();
        for (int i = 0; i < 16; i++) {
            server.add(0, 0, 1, 1, true, 0);
        }
        CHECK.due("7: a link that was not there", server.link(0, 15, false), false);
        CHECK.due("7: a new one", server.link(0, 15, true), true);
        CHECK.due("7: the same again", server.link(0, 15, true), false);
        CHECK.due("7: the other way is another one", server.link(15, 0, true), true);
        CHECK.due("7: another one of the same item", server.link(0, 1, true), true);
        CHECK.due("7: away", server.link(0, 15, false), true);
        CHECK.due("7: away again", server.link(0, 15, false), false);
        CHECK.due("7: the others stay", server.link(15, 0, true), false);
        CHECK.due("7: the others stay", server.link(0, 1, true), false);
    }

    private static void refusedLinks() {
        PlantServer server = opened();
        server.open(1, 10, 30, 0, 1);
        server.open(1, 10, 30, 0, 1);
        server.add(0, 0, 1, 1, true, 0);
        server.add(1, 0, 1, 1, true, 0);
        server.add(2, 0, 1, 1, true, 0);
        server.close(2);
        for (int bad : new int[] {-1, 2, 3, 15, 16, FAR[0], FAR[1]}) {
            CHECK.refuses("7: from " + bad, server, BOUNDS, () -> server.link(bad, 0, true));
            CHECK.refuses("7: to " + bad, server, BOUNDS, () -> server.link(0, bad, true));
            CHECK.refuses("7: from and to " + bad, server, BOUNDS, () -> server.link(bad, bad, true));
        }
        CHECK.refuses("7: to itself", server, ARGUMENT, () -> server.link(0, 0, true));
        CHECK.refuses("7: not to itself", server, ARGUMENT, () -> server.link(1, 1, false));
        CHECK.refuses("7: unlike subscriptions", server, ARGUMENT, () -> server.link(0, 1, true));
        CHECK.refuses("7: unlike subscriptions, away", server, ARGUMENT, () -> server.link(1, 0, false));
    }

    /** Items on the nodes 0 to 3, each a sample only when its node is written. */
    private static PlantServer withFourItems() {
        PlantServer server = opened();
        for (int i = 0; i < 4; i++) {
            server.add(0, i, 1, 4, true, 0);
        }
        server.request();
        server.pass(1);
        return server;
    }

    private static String toldWith(PlantServer server, int... written) {
        int before = server.latest(0);
        for (int node : written) {
            server.write(node, 1000 - server.write(node, 500));
        }
        for (int i = server.requests(); i < 1; i++) {
            server.request();
        }
        server.pass(1);
        if (server.latest(0) == before) {
            return "none";
        }
        StringBuilder told = new StringBuilder();
        for (int place = 0; place < server.size(0, before + 1); place++) {
            told.append(server.itemAt(0, before + 1, place));
        }
        return told.toString();
    }

    private static void whoIsTold() {
        PlantServer server = withFourItems();
        CHECK.due("9: all that have a sample, by rising numbers", toldWith(server, 3, 0, 2), "023");
        server.setReporting(2, false);
        CHECK.due("9: those that report", toldWith(server, 3, 0, 2), "03");
        CHECK.due("9: none that reports", toldWith(server), "none");
        server.link(3, 2, true);
        CHECK.due("9: one that is triggered, from a higher number", toldWith(server, 3), "23");
        CHECK.due("9: another one does not trigger it", toldWith(server, 2, 1), "1");
        server.link(1, 2, true);
        CHECK.due("9: two trigger it, it is told once", toldWith(server, 1, 3), "123");
        server.setReporting(0, false);
        server.link(1, 0, true);
        server.link(1, 2, false);
        CHECK.due("9: each triggers another one", toldWith(server, 0, 1, 2, 3), "0123");
    }

    private static void triggersGoOneStep() {
        PlantServer server = withFourItems();
        server.setReporting(1, false);
        server.setReporting(2, false);
        server.link(0, 1, true);
        server.link(1, 2, true);
        CHECK.due("9: in one step", toldWith(server, 0, 1, 2), "01");
        CHECK.due("9: the triggered one alone tells nothing", toldWith(server, 1), "none");
        CHECK.due("9: the one behind it still waits", server.waiting(2), 1);
        server.setReporting(1, true);
        CHECK.due("9: one that reports too triggers", toldWith(server, 0), "012");
    }

    private static void aTriggerNeedsReportingAndASample() {
        PlantServer server = withFourItems();
        server.setReporting(0, false);
        server.setReporting(1, false);
        server.link(0, 1, true);
        CHECK.due("9: a silent one triggers nothing", toldWith(server, 0, 1), "none");
        server.setReporting(0, true);
        CHECK.due("9: it triggers now", toldWith(server), "01");
        CHECK.due("9: one without a sample triggers nothing", toldWith(server, 1), "none");
        server.link(2, 1, true);
        CHECK.due("9: another one does", toldWith(server, 2), "12");
    }

    private static void aTriggeredItemNeedsASample() {
        PlantServer server = withFourItems();
        server.setReporting(1, false);
        server.link(0, 1, true);
        CHECK.due("9: without a sample it is not told", toldWith(server, 0), "0");
        CHECK.due("10: the request was used up", server.requests(), 0);
        CHECK.due("9: nothing is told", toldWith(server), "none");
        CHECK.due("10: the request waits", server.requests(), 1);
    }

    private static void unlinking() {
        PlantServer server = withFourItems();
        server.setReporting(1, false);
        server.link(0, 1, true);
        CHECK.due("7: linked", toldWith(server, 0, 1), "01");
        server.link(0, 1, false);
        CHECK.due("7: not any more", toldWith(server, 0, 1), "0");
    }

    private static void refusedAddsWhenFull() {
        PlantServer server = opened();
        server.open(1, 10, 30, 0, 1);
        for (int i = 0; i < 16; i++) {
            server.add(1, 0, 1, 1, true, 0);
        }
        CHECK.refuses("5: a seventeenth one", server, STATE, () -> server.add(0, 9, 20, 4, false, 1000));
        server.close(0);
        CHECK.refuses("5: a closed one is looked at first", server, BOUNDS, () -> server.add(0, 0, 0, 0, true, -1));
        CHECK.due("4: all are of the other one", server.close(1), 16);
    }

    private static void everySizeAndBand() {
        PlantServer server = opened();
        int next = 0;
        for (int every : new int[] {1, 2, 19, 20}) {
            CHECK.due("5: every " + every, server.add(0, 0, every, 1, true, 0), next++);
        }
        for (int size : new int[] {1, 2, 3, 4}) {
            CHECK.due("5: size " + size, server.add(0, 0, 1, size, true, 0), next++);
        }
        for (int band : new int[] {0, 1, 999, 1000}) {
            CHECK.due("5: band " + band, server.add(0, 0, 1, 1, true, band), next++);
        }
        for (int node : new int[] {0, 1, 8, 9}) {
            CHECK.due("5: node " + node, server.add(0, node, 1, 1, true, 0), next++);
        }
        for (int item = 0; item < next; item++) {
            CHECK.due("19: each has its first sample", server.waiting(item), 1);
        }
    }

    private static void twoThatTriggerEachOther() {
        PlantServer server = withFourItems();
        server.link(0, 1, true);
        server.link(1, 0, true);
        server.setReporting(0, false);
        server.setReporting(1, false);
        CHECK.due("9: none of them reports", toldWith(server, 0, 1), "none");
        server.setReporting(1, true);
        CHECK.due("9: one of them does", toldWith(server), "01");
        server.setReporting(0, true);
        CHECK.due("9: both do, each is told once", toldWith(server, 0, 1), "01");
    }

    private static void aTriggeredOneAddsToItsOwn() {
        PlantServer server = withFourItems();
        server.setReporting(0, false);
        server.link(3, 0, true);
        server.pass(1);
        CHECK.due("9: it waits without its trigger", toldWith(server, 0), "none");
        CHECK.due("9: all that waited is told", toldWith(server, 0, 3), "003");
        CHECK.due("19: nothing is left", server.waiting(0), 0);
    }

    private static void itemsOfAnEndedLife() {
        PlantServer server = new PlantServer();
        server.open(1, 1, 1, 0, 1);
        server.add(0, 0, 1, 1, true, 0);
        server.add(0, 0, 1, 1, true, 0);
        server.pass(1);
        CHECK.refuses("5: add", server, BOUNDS, () -> server.add(0, 0, 1, 1, true, 0));
        CHECK.refuses("6: setReporting", server, BOUNDS, () -> server.setReporting(0, false));
        CHECK.refuses("7: link", server, BOUNDS, () -> server.link(0, 1, true));
        CHECK.refuses("20: queued", server, BOUNDS, () -> server.queued(1));
        CHECK.refuses("21: queuedByHistory", server, BOUNDS, () -> server.queuedByHistory(1));
        server.open(1, 1, 1, 0, 1);
        CHECK.due("5: a gone one's number is not used again", server.add(1, 0, 1, 1, true, 0), 2);
        CHECK.due("4: a gone one is not of the next", server.close(1), 1);
    }

    private static void linksOfGoneItems() {
        PlantServer server = opened();
        server.open(1, 10, 30, 0, 1);
        server.add(0, 0, 1, 1, true, 0);
        server.add(0, 0, 1, 1, true, 0);
        server.add(1, 0, 1, 1, true, 0);
        server.link(0, 1, true);
        server.close(0);
        CHECK.refuses("7: both are gone", server, BOUNDS, () -> server.link(0, 1, false));
        CHECK.refuses("7: a gone one to itself", server, BOUNDS, () -> server.link(1, 1, true));
        CHECK.refuses("7: from a gone one to an unlike one", server, BOUNDS, () -> server.link(0, 2, true));
        CHECK.refuses("7: from an unlike one to a gone one", server, BOUNDS, () -> server.link(2, 0, true));
    }
}

/** Promises 19 to 21: waiting, queued, queuedByHistory; when items sample, what is queued, dropped, marked. */
final class QueuesTest {
    private static final Class<IndexOutOfBoundsException> BOUNDS = IndexOutOfBoundsException.class;
    private static final Check CHECK = new Check("QueuesTest");

    public static void main(String[] args) {
        timeBetweenSamples();
        theBand();
        bandOfTheLastQueued();
        dropsTheOldest();
        dropsTheLast();
        queueOfOne();
        aTakenMarkDoesNotStay();
        droppedOnesAreCounted();
        silentItemsSample();
        writesBetweenSamplesAreNotSeen();
        historyFromTheMiddle();
        noSuchItem();
        eachSizeUntilItIsFull();
        marksThatAreLeft();
        theWidestBands();
        theFirstIsQueued();
        aTimeCountsFromTheAdding();
        aGoneItemCountsNoMore();
        CHECK.end();
    }

    private static PlantServer opened() {
        PlantServer server = new PlantServer();
        server.open(1, 10, 30, 0, 10);
        return server;
    }

    private static void counts(String what, PlantServer server, int item, int waiting, int queued) {
        CHECK.due("19: " + what, server.waiting(item), waiting);
        CHECK.due("20: " + what, server.queued(item), queued);
        CHECK.due("21: " + what, server.queuedByHistory(item), queued);
    }

    /** Writes and lets one tick pass, for each value. */
    private static void samples(PlantServer server, int... values) {
        for (int value : values) {
            server.write(0, value);
            server.pass(1);
        }
    }

    private static String sent(PlantServer server) {
        return sentOf(server, 0);
    }

    private static String sentOf(PlantServer server, int subscription) {
        server.request();
        server.pass(1);
        int message = server.latest(subscription);
        StringBuilder text = new StringBuilder();
        for (int place = 0; place < server.size(subscription, message); place++) {
            text.append(server.valueAt(subscription, message, place));
            text.append(server.isMarked(subscription, message, place) ? "! " : " ");
        }
        return text.toString();
    }

    private static void timeBetweenSamples() {
        PlantServer server = opened();
        server.pass(2);
        server.add(0, 0, 3, 4, true, 0);
        server.add(0, 0, 20, 4, true, 0);
        counts("sampled when added", server, 0, 1, 1);
        server.write(0, 5);
        server.pass(2);
        counts("two ticks later", server, 0, 1, 1);
        server.pass(1);
        counts("three ticks later", server, 0, 2, 2);
        server.write(0, 6);
        server.pass(2);
        counts("five ticks later", server, 0, 2, 2);
        server.pass(1);
        counts("six ticks later", server, 0, 3, 3);
        server.pass(13);
        counts("of 20, nineteen ticks later", server, 1, 1, 1);
        server.pass(1);
        counts("of 20, twenty ticks later", server, 1, 2, 2);
    }

    private static void theBand() {
        PlantServer server = opened();
        server.write(0, 500);
        server.add(0, 0, 1, 4, true, 10);
        server.add(0, 0, 1, 4, true, 0);
        server.add(0, 0, 1, 4, true, 1000);
        samples(server, 500);
        counts("no change, band 10", server, 0, 1, 1);
        counts("no change, band 0", server, 1, 1, 1);
        samples(server, 510);
        counts("just the band", server, 0, 1, 1);
        samples(server, 511);
        counts("more than the band", server, 0, 2, 2);
        samples(server, 501);
        counts("just the band, down", server, 0, 2, 2);
        samples(server, 500);
        counts("more than the band, down", server, 0, 3, 3);
        counts("each change, band 0", server, 1, 4, 5);
        samples(server, 0, 1000, 0);
        counts("the widest band", server, 2, 1, 1);
        CHECK.due("14: band 1000 keeps the first", sent(server).endsWith(" 500 "), true);
    }

    private static void bandOfTheLastQueued() {
        PlantServer server = opened();
        server.add(0, 0, 1, 4, true, 5);
        samples(server, 4, 5, 3, 5);
        counts("slowly within the band", server, 0, 1, 1);
        samples(server, 6, 8, 11);
        counts("from the last queued one, not the last sample", server, 0, 2, 2);
        CHECK.due("14: what was queued", sent(server), "0 6 ");
        samples(server, 11, 1);
        counts("also when it was taken", server, 0, 0, 2);
        samples(server, 0);
        counts("also when it was taken", server, 0, 1, 3);
    }

    private static void dropsTheOldest() {
        PlantServer server = opened();
        server.add(0, 0, 1, 3, true, 0);
        samples(server, 1, 2);
        counts("full", server, 0, 3, 3);
        samples(server, 3);
        counts("one dropped", server, 0, 3, 4);
        CHECK.due("16: the first one is marked", sent(server), "1! 2 3 ");
        samples(server, 4, 5, 6, 7, 8);
        CHECK.due("16: a mark goes with the dropped one", sent(server), "6! 7 8 ");
    }

    private static void dropsTheLast() {
        PlantServer server = opened();
        server.add(0, 0, 1, 3, false, 0);
        samples(server, 1, 2, 3);
        counts("one dropped", server, 0, 3, 4);
        CHECK.due("16: the last one is marked", sent(server), "0 1 3! ");
        samples(server, 4, 5, 6, 7, 8);
        CHECK.due("16: the last one takes the place each time", sent(server), "4 5 8! ");
    }

    private static void queueOfOne() {
        for (boolean dropsOldest : new boolean[] {true, false}) {
            PlantServer server = opened();
            server.add(0, 0, 1, 1, dropsOldest, 0);
            CHECK.due("16: the only one is not marked", sent(server), "0 ");
            samples(server, 1);
            CHECK.due("16: again not", sent(server), "1 ");
            samples(server, 2, 3);
            counts("one dropped", server, 0, 1, 4);
            CHECK.due("16: the only one is marked", sent(server), "3! ");
        }
    }

    private static void aTakenMarkDoesNotStay() {
        for (boolean dropsOldest : new boolean[] {true, false}) {
            PlantServer server = opened();
            server.add(0, 0, 1, 2, dropsOldest, 0);
            samples(server, 1, 2);
            CHECK.due("16: one is marked", sent(server).contains("!"), true);
            samples(server, 3, 4);
            CHECK.due("16: none is marked in a queue that was emptied", sent(server), "3 4 ");
        }
    }

    private static void droppedOnesAreCounted() {
        PlantServer server = opened();
        server.add(0, 0, 1, 4, true, 0);
        server.add(0, 0, 1, 2, false, 0);
        for (int i = 1; i <= 20; i++) {
            samples(server, i);
        }
        counts("dropping the oldest", server, 0, 4, 21);
        counts("dropping the last", server, 1, 2, 21);
    }

    private static void silentItemsSample() {
        PlantServer server = opened();
        server.add(0, 0, 1, 2, true, 0);
        server.setReporting(0, false);
        samples(server, 1, 2, 3);
        counts("silent", server, 0, 2, 4);
        server.setReporting(0, true);
        CHECK.due("16: what a silent one queued", sent(server), "2! 3 ");
    }

    private static void writesBetweenSamplesAreNotSeen() {
        PlantServer server = opened();
        server.add(0, 0, 2, 4, true, 0);
        server.write(0, 7);
        server.pass(1);
        server.write(0, 0);
        server.pass(1);
        counts("away and back", server, 0, 1, 1);
        server.write(0, 8);
        server.write(0, 9);
        server.write(1, 3);
        server.pass(4);
        counts("the last write alone", server, 0, 2, 2);
        server.write(0, 1);
        counts("a write behind the last sample", server, 0, 2, 2);
        CHECK.due("14: the last write alone", sent(server), "0 9 ");
    }

    private static void historyFromTheMiddle() {
        PlantServer server = opened();
        server.write(0, 5);
        server.write(1, 6);
        server.pass(3);
        server.write(0, 50);
        server.add(0, 0, 1, 4, true, 3);
        counts("added behind a write of its tick", server, 0, 1, 1);
        server.write(0, 54);
        counts("a write of the tick in which it was added", server, 0, 1, 1);
        server.pass(1);
        counts("seen a tick later", server, 0, 2, 2);
        server.add(0, 1, 1, 4, true, 0);
        server.write(1, 9);
        server.write(0, 58);
        server.pass(10);
        counts("each has its node", server, 0, 3, 3);
        counts("each has its node", server, 1, 2, 2);
        CHECK.due("14: all of it", sent(server), "50 54 58 6 9 ");
    }

    private static void noSuchItem() {
        PlantServer server = opened();
        server.add(0, 0, 1, 1, true, 0);
        for (int bad : new int[] {-1, 1, 15, 16, Integer.MIN_VALUE, Integer.MAX_VALUE}) {
            CHECK.refuses("19: of " + bad, server, BOUNDS, () -> server.waiting(bad));
            CHECK.refuses("20: of " + bad, server, BOUNDS, () -> server.queued(bad));
            CHECK.refuses("21: of " + bad, server, BOUNDS, () -> server.queuedByHistory(bad));
        }
    }

    private static void eachSizeUntilItIsFull() {
        for (int size = 1; size <= 4; size++) {
            for (int more = 0; more <= 5; more++) {
                eachWayToDrop(size, more);
            }
        }
    }

    private static void eachWayToDrop(int size, int more) {
        PlantServer server = opened();
        server.add(0, 0, 1, size, true, 0);
        server.add(0, 0, 1, size, false, 0);
        int newest = size - 1 + more;
        for (int value = 1; value <= newest; value++) {
            samples(server, value);
        }
        StringBuilder due = new StringBuilder();
        for (int value = more; value <= newest; value++) {
            due.append(value).append(more > 0 && value == more ? "! " : " ");
        }
        for (int value = 0; value < size - 1; value++) {
            due.append(value).append(' ');
        }
        due.append(newest).append(more > 0 ? "! " : " ");
        String what = "size " + size + " and " + more + " more";
        counts(what, server, 0, size, newest + 1);
        counts(what, server, 1, size, newest + 1);
        CHECK.due("14, 16: " + what, sent(server), due.toString());
    }

    /** One value a message, so that a part of the queue stays behind each. */
    private static void marksThatAreLeft() {
        PlantServer server = new PlantServer();
        server.open(1, 10, 30, 0, 1);
        server.add(0, 0, 1, 3, false, 0);
        samples(server, 1, 2, 3);
        CHECK.due("16: the first of the queue", sent(server), "0 ");
        samples(server, 4);
        counts("there is room for one", server, 0, 3, 5);
        CHECK.due("16: the next", sent(server), "1 ");
        CHECK.due("16: a mark stays with its sample", sent(server), "3! ");
        CHECK.due("16: the one that found room has none", sent(server), "4 ");
        server.close(0);
        server.open(1, 10, 30, 0, 1);
        server.add(1, 1, 1, 3, true, 0);
        for (int value : new int[] {1, 2, 3, 4}) {
            server.write(1, value);
            server.pass(1);
        }
        CHECK.due("16: the first is marked", sentOf(server, 1), "2! ");
        server.write(1, 5);
        server.pass(1);
        counts("there is room for one", server, 1, 3, 6);
        CHECK.due("16: none was dropped since", sentOf(server, 1), "3 ");
        CHECK.due("16: none was dropped since", sentOf(server, 1), "4 ");
        CHECK.due("16: none was dropped since", sentOf(server, 1), "5 ");
    }

    private static void theWidestBands() {
        PlantServer server = opened();
        server.add(0, 0, 1, 4, true, 999);
        server.add(0, 0, 1, 4, true, 1000);
        samples(server, 999);
        counts("just the band of 999", server, 0, 1, 1);
        samples(server, 1000);
        counts("more than the band of 999", server, 0, 2, 2);
        samples(server, 1);
        counts("just the band of 999, down", server, 0, 2, 2);
        samples(server, 0);
        counts("more than the band of 999, down", server, 0, 3, 3);
        counts("nothing is more than the band of 1000", server, 1, 1, 1);
    }

    private static void theFirstIsQueued() {
        PlantServer server = opened();
        server.add(0, 0, 1, 1, true, 1000);
        counts("a first one of 0, whatever the band", server, 0, 1, 1);
        server.write(1, 1000);
        server.add(0, 1, 20, 1, false, 1000);
        counts("a first one of 1000, whatever the band", server, 1, 1, 1);
        CHECK.due("16: neither is marked", sent(server), "0 1000 ");
    }

    private static void aTimeCountsFromTheAdding() {
        for (int every = 1; every <= 20; every++) {
            PlantServer server = new PlantServer();
            server.open(20, 10, 30, 0, 10);
            server.pass(7);
            server.add(0, 0, every, 4, true, 0);
            server.write(0, 1);
            if (every > 1) {
                server.pass(every - 1);
                counts("before its time of " + every, server, 0, 1, 1);
            }
            server.pass(1);
            counts("at its time of " + every, server, 0, 2, 2);
            server.write(0, 2);
            server.pass(every);
            counts("and again", server, 0, 3, 3);
        }
    }

    private static void aGoneItemCountsNoMore() {
        PlantServer server = opened();
        server.open(1, 10, 30, 0, 10);
        server.add(0, 0, 1, 4, true, 0);
        server.add(1, 0, 1, 4, true, 0);
        samples(server, 1);
        server.close(0);
        samples(server, 2);
        CHECK.refuses("19: gone", server, BOUNDS, () -> server.waiting(0));
        CHECK.refuses("20: gone", server, BOUNDS, () -> server.queued(0));
        CHECK.refuses("21: gone", server, BOUNDS, () -> server.queuedByHistory(0));
        counts("the other one's", server, 1, 3, 3);
    }
}

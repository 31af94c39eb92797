/** All that the questions tell of a server, as one text. */
final class Picture {
    private static final int SUBSCRIPTIONS = 4;
    private static final int ITEMS = 16;
    private static final int KEPT_AT_MOST = 5;
    private static final int PLACES = 10;

    private Picture() {
    }

    static String of(PlantServer server) {
        StringBuilder text = new StringBuilder();
        text.append("tick ").append(server.tick()).append(" requests ").append(server.requests());
        for (int s = 0; s < SUBSCRIPTIONS; s++) {
            if (server.isOpen(s)) {
                addSubscription(text, server, s);
            }
        }
        for (int i = 0; i < ITEMS; i++) {
            int item = i;
            text.append("\nitem ").append(i);
            text.append(' ').append(Check.outcome(() -> server.waiting(item)));
            text.append(' ').append(Check.outcome(() -> server.queued(item)));
            text.append(' ').append(Check.outcome(() -> server.queuedByHistory(item)));
        }
        return text.toString();
    }

    private static void addSubscription(StringBuilder text, PlantServer server, int s) {
        int latest = server.latest(s);
        text.append("\nsubscription ").append(s).append(" latest ").append(latest);
        text.append(" keep-alives ").append(server.keepAlives(s));
        for (int m = Math.max(-1, latest - KEPT_AT_MOST - 10); m <= latest + 1; m++) {
            int size = server.size(s, m);
            text.append("\n message ").append(m).append(" size ").append(size);
            addPlaces(text, server, s, m);
        }
    }

    private static void addPlaces(StringBuilder text, PlantServer server, int s, int m) {
        for (int p = -1; p <= PLACES; p++) {
            int place = p;
            Object value = Check.outcome(() -> server.valueAt(s, m, place));
            Object item = Check.outcome(() -> server.itemAt(s, m, place));
            Object mark = Check.outcome(() -> server.isMarked(s, m, place));
            text.append(' ').append(value).append('/').append(item).append('/').append(mark);
        }
    }
}

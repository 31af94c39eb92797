import java.util.NoSuchElementException;

/**
 * A data server of a plant: nodes with values, items that sample them into queues, and
 * subscriptions that publish what is queued when a request waits.
 */
public final class PlantServer {
    public static final int NONE = -1;

    private static final int NODES = 10;
    private static final int TOP_VALUE = 1000;
    private static final int MOST_SUBSCRIPTIONS = 4;
    private static final int MOST_ITEMS = 16;
    private static final int MOST_REQUESTS = 10;
    private static final int MOST_TICKS = 5000;
    private static final int MOST_TICKS_A_PASS = 50;
    private static final int MOST_EVERY = 20;
    private static final int MOST_IDLE = 10;
    private static final int MOST_LIFE = 30;
    private static final int TOP_PRIORITY = 9;
    private static final int MOST_PLACES = 10;
    private static final int MOST_QUEUE = 4;
    private static final int MOST_KEPT = 5;
    private static final int MOST_WRITES = 512;

    private final int[] nodes = new int[NODES];
    private final Subscription[] subscriptions = new Subscription[MOST_SUBSCRIPTIONS];
    private final Subscription[] inTurn = new Subscription[MOST_SUBSCRIPTIONS];
    private final Item[] items = new Item[MOST_ITEMS];
    private final History history = new History();
    private int subscriptionCount = 0;
    private int itemCount = 0;
    private int requestCount = 0;
    private int now = 0;

    public PlantServer() {
    }

    // ---- nodes, subscriptions, items

    public int write(int node, int value) throws IndexOutOfBoundsException, IllegalArgumentException {
        checkNode(node);
        checkRange(value, 0, TOP_VALUE);
        int before = nodes[node];
        nodes[node] = value;
        history.record(now, node, value);
        return before;
    }

    public int open(int every, int idle, int life, int priority, int most)
            throws IllegalArgumentException, IllegalStateException {
        checkRange(every, 1, MOST_EVERY);
        checkRange(idle, 1, MOST_IDLE);
        checkRange(life, 1, MOST_LIFE);
        checkRange(priority, 0, TOP_PRIORITY);
        checkRange(most, 1, MOST_PLACES);
        if (subscriptionCount >= MOST_SUBSCRIPTIONS) {
            throw new IllegalStateException("there were 4 subscriptions");
        }
        int number = subscriptionCount;
        Subscription opened = new Subscription(every, idle, life, priority, most);
        subscriptions[number] = opened;
        putInTurn(opened, number);
        subscriptionCount++;
        return number;
    }

    public int close(int subscription) throws IndexOutOfBoundsException {
        Subscription closed = openSubscription(subscription);
        closed.isLive = false;
        return closed.itemCount;
    }

    public int add(int subscription, int node, int every, int size, boolean dropsOldest, int band)
            throws IndexOutOfBoundsException, IllegalArgumentException, IllegalStateException {
        Subscription owner = openSubscription(subscription);
        checkNode(node);
        checkRange(every, 1, MOST_EVERY);
        checkRange(size, 1, MOST_QUEUE);
        checkRange(band, 0, TOP_VALUE);
        if (itemCount >= MOST_ITEMS) {
            throw new IllegalStateException("there were 16 items");
        }
        int number = itemCount;
        Item added = new Item(number, owner, node, every, band, new Queue(size, dropsOldest));
        items[number] = added;
        itemCount++;
        owner.take(added);
        added.begin(now, history.count, nodes[node]);
        return number;
    }

    public boolean setReporting(int item, boolean reports) throws IndexOutOfBoundsException {
        Item set = liveItem(item);
        boolean changes = set.reports != reports;
        set.reports = reports;
        return changes;
    }

    public boolean link(int item, int other, boolean triggers)
            throws IndexOutOfBoundsException, IllegalArgumentException {
        Item from = liveItem(item);
        Item to = liveItem(other);
        if (from == to) {
            throw new IllegalArgumentException("an item does not trigger itself");
        }
        if (from.owner != to.owner) {
            throw new IllegalArgumentException("the items are of unlike subscriptions");
        }
        return from.setTrigger(to.number, triggers);
    }

    // ---- ticks and requests

    public int request() throws IllegalStateException {
        if (requestCount >= MOST_REQUESTS) {
            throw new IllegalStateException("10 requests wait");
        }
        requestCount++;
        return requestCount;
    }

    public int pass(int ticks) throws IllegalArgumentException, IllegalStateException {
        checkRange(ticks, 1, MOST_TICKS_A_PASS);
        if (ticks > MOST_TICKS - now) {
            throw new IllegalStateException("there would be more than 5000 ticks");
        }
        int sent = 0;
        for (int i = 0; i < ticks; i++) {
            now++;
            sampleItems();
            sent += publishSubscriptions();
        }
        return sent;
    }

    public int requests() {
        return requestCount;
    }

    public int tick() {
        return now;
    }

    // ---- messages

    public boolean acknowledge(int subscription, int message) throws IndexOutOfBoundsException {
        Subscription asked = openSubscription(subscription);
        int place = asked.placeOf(message);
        if (place == NONE) {
            return false;
        }
        asked.forget(place);
        return true;
    }

    public int size(int subscription, int message) throws IndexOutOfBoundsException {
        Message kept = openSubscription(subscription).find(message);
        return kept == null ? NONE : kept.count;
    }

    public int valueAt(int subscription, int message, int place)
            throws IndexOutOfBoundsException, java.util.NoSuchElementException {
        return messageWith(subscription, message, place).values[place];
    }

    public int itemAt(int subscription, int message, int place)
            throws IndexOutOfBoundsException, java.util.NoSuchElementException {
        return messageWith(subscription, message, place).items[place];
    }

    public boolean isMarked(int subscription, int message, int place)
            throws IndexOutOfBoundsException, java.util.NoSuchElementException {
        return messageWith(subscription, message, place).marks[place];
    }

    public int latest(int subscription) throws IndexOutOfBoundsException {
        return openSubscription(subscription).lastNumber;
    }

    public int keepAlives(int subscription) throws IndexOutOfBoundsException {
        return openSubscription(subscription).keepAliveCount;
    }

    // ---- items

    public int waiting(int item) throws IndexOutOfBoundsException {
        return liveItem(item).queue.count;
    }

    public int queued(int item) throws IndexOutOfBoundsException {
        return liveItem(item).queuedCount;
    }

    public int queuedByHistory(int item) throws IndexOutOfBoundsException {
        return history.countQueued(liveItem(item), now);
    }

    public boolean isOpen(int subscription) throws IllegalArgumentException {
        checkRange(subscription, 0, MOST_SUBSCRIPTIONS - 1);
        Subscription asked = subscriptions[subscription];
        return asked != null && asked.isLive;
    }

    // ---- what the calls share

    private static void checkRange(int value, int least, int most) {
        if (value < least || value > most) {
            throw new IllegalArgumentException("an argument is out of its range");
        }
    }

    private static void checkNode(int node) {
        if (node < 0 || node >= NODES) {
            throw new IndexOutOfBoundsException("there is no such node");
        }
    }

    private Subscription openSubscription(int number) {
        if (number < 0 || number >= MOST_SUBSCRIPTIONS) {
            throw new IndexOutOfBoundsException("there is no such subscription");
        }
        Subscription found = subscriptions[number];
        if (found == null || !found.isLive) {
            throw new IndexOutOfBoundsException("the subscription is not open");
        }
        return found;
    }

    private Item liveItem(int number) {
        if (number < 0 || number >= MOST_ITEMS) {
            throw new IndexOutOfBoundsException("there is no such item");
        }
        Item found = items[number];
        if (found == null || !found.owner.isLive) {
            throw new IndexOutOfBoundsException("the item is not there");
        }
        return found;
    }

    private Message messageWith(int subscription, int message, int place) {
        Message kept = openSubscription(subscription).find(message);
        if (kept == null) {
            throw new NoSuchElementException("the message is not kept");
        }
        if (place < 0 || place >= kept.count) {
            throw new NoSuchElementException("the message has no such place");
        }
        return kept;
    }

    // An equal priority does not overtake, so that the lower number comes first.
    private void putInTurn(Subscription opened, int before) {
        int place = before;
        for (; place > 0; place--) {
            Subscription earlier = inTurn[place - 1];
            if (earlier == null || earlier.priority >= opened.priority) {
                break;
            }
            inTurn[place] = earlier;
        }
        inTurn[place] = opened;
    }

    private void sampleItems() {
        for (int i = 0; i < itemCount; i++) {
            Item item = items[i];
            if (item != null && item.owner.isLive && item.timer.countTick()) {
                item.sample(nodes[item.node]);
            }
        }
    }

    private int publishSubscriptions() {
        int sent = 0;
        for (int i = 0; i < subscriptionCount; i++) {
            Subscription next = inTurn[i];
            if (next != null && next.isLive && next.timer.countTick() && publishes(next)) {
                sent++;
            }
        }
        return sent;
    }

    private boolean publishes(Subscription subscription) {
        int told = subscription.findTold();
        if (!subscription.isSomethingDue(told)) {
            return false;
        }
        if (requestCount == 0) {
            subscription.lose();
            return false;
        }
        requestCount--;
        subscription.send(told);
        return true;
    }

    /** Says when a time has passed, and again. */
    private static final class Timer {
        final int every;
        int left;

        Timer(int every) {
            this.every = every;
            this.left = every;
        }

        boolean countTick() {
            left--;
            if (left > 0) {
                return false;
            }
            left = every;
            return true;
        }
    }

    /** The samples of an item that no message has taken yet. */
    private static final class Queue {
        final int size;
        final boolean dropsOldest;
        final int[] values = new int[MOST_QUEUE];
        final boolean[] marks = new boolean[MOST_QUEUE];
        int count = 0;

        Queue(int size, boolean dropsOldest) {
            this.size = size;
            this.dropsOldest = dropsOldest;
        }

        void put(int value) {
            if (count < size) {
                append(value, false);
            } else if (dropsOldest) {
                dropFirst();
                append(value, false);
                marks[0] = true;
            } else {
                count = size - 1;
                append(value, true);
            }
        }

        void dropFirst() {
            for (int i = 1; i < count; i++) {
                values[i - 1] = values[i];
                marks[i - 1] = marks[i];
            }
            if (count > 0) {
                count--;
            }
        }

        private void append(int value, boolean mark) {
            if (count < MOST_QUEUE) {
                values[count] = value;
                marks[count] = mark;
                count++;
            }
        }
    }

    /** What samples a node for a subscription. */
    private static final class Item {
        final int number;
        final Subscription owner;
        final int node;
        final int band;
        final Timer timer;
        final Queue queue;
        boolean reports = true;
        // Bit n is set if this item triggers the item n.
        int triggers = 0;
        int queuedCount = 0;
        int lastQueued = 0;
        int addedAt = 0;
        int writesBefore = 0;

        Item(int number, Subscription owner, int node, int every, int band, Queue queue) {
            this.number = number;
            this.owner = owner;
            this.node = node;
            this.band = band;
            this.timer = new Timer(every);
            this.queue = queue;
        }

        void begin(int tick, int writes, int value) {
            addedAt = tick;
            writesBefore = writes;
            enqueue(value);
        }

        void sample(int value) {
            if (leavesBand(value, lastQueued)) {
                enqueue(value);
            }
        }

        boolean leavesBand(int value, int last) {
            return Math.abs(value - last) > band;
        }

        boolean setTrigger(int other, boolean isSet) {
            int bit = 1 << other;
            boolean wasSet = (triggers & bit) != 0;
            if (wasSet == isSet) {
                return false;
            }
            triggers ^= bit;
            return true;
        }

        void giveTo(Message message, int most) {
            int given = Math.min(queue.count, most - message.count);
            for (int i = 0; i < given; i++) {
                message.append(number, queue.values[0], queue.marks[0]);
                queue.dropFirst();
            }
        }

        private void enqueue(int value) {
            queue.put(value);
            lastQueued = value;
            queuedCount++;
        }
    }

    /** Values that a subscription sent together. */
    private static final class Message {
        final int[] values = new int[MOST_PLACES];
        final int[] items = new int[MOST_PLACES];
        final boolean[] marks = new boolean[MOST_PLACES];
        int number = 0;
        int count = 0;

        void begin(int itsNumber) {
            number = itsNumber;
            count = 0;
        }

        void append(int item, int value, boolean mark) {
            if (count < MOST_PLACES) {
                items[count] = item;
                values[count] = value;
                marks[count] = mark;
                count++;
            }
        }
    }

    /** What publishes the samples of its items, and keeps the messages that were sent. */
    private static final class Subscription {
        final Timer timer;
        final int idle;
        final int life;
        final int priority;
        final int most;
        final Item[] items = new Item[MOST_ITEMS];
        // The first keptCount ones are kept, the oldest first; the others are to be used again.
        final Message[] messages = new Message[MOST_KEPT];
        boolean isLive = true;
        int itemCount = 0;
        int keptCount = 0;
        int lastNumber = 0;
        int keepAliveCount = 0;
        int idleRow = 0;
        int lostRow = 0;

        Subscription(int every, int idle, int life, int priority, int most) {
            this.timer = new Timer(every);
            this.idle = idle;
            this.life = life;
            this.priority = priority;
            this.most = most;
        }

        void take(Item item) {
            if (itemCount < MOST_ITEMS) {
                items[itemCount] = item;
                itemCount++;
            }
        }

        /** Returns the items that are told, the bit n for the item n. */
        int findTold() {
            int reporting = 0;
            int triggered = 0;
            int filled = 0;
            for (int i = 0; i < itemCount; i++) {
                Item item = items[i];
                if (item != null && item.queue.count > 0) {
                    filled |= 1 << item.number;
                    if (item.reports) {
                        reporting |= 1 << item.number;
                        triggered |= item.triggers;
                    }
                }
            }
            return reporting | (triggered & filled);
        }

        boolean isSomethingDue(int told) {
            if (told != 0) {
                idleRow = 0;
                return true;
            }
            idleRow++;
            return idleRow >= idle;
        }

        void lose() {
            lostRow++;
            if (lostRow >= life) {
                isLive = false;
            }
        }

        void send(int told) {
            if (told != 0) {
                fillMessage(told);
            } else {
                keepAliveCount++;
            }
            idleRow = 0;
            lostRow = 0;
        }

        int placeOf(int message) {
            for (int i = 0; i < keptCount; i++) {
                Message kept = messages[i];
                if (kept != null && kept.number == message) {
                    return i;
                }
            }
            return NONE;
        }

        Message find(int message) {
            int place = placeOf(message);
            return place == NONE ? null : messages[place];
        }

        void forget(int place) {
            if (place < 0 || place >= keptCount) {
                return;
            }
            Message forgotten = messages[place];
            for (int i = place + 1; i < keptCount; i++) {
                messages[i - 1] = messages[i];
            }
            keptCount--;
            messages[keptCount] = forgotten;
        }

        private void fillMessage(int told) {
            Message message = nextMessage();
            for (int i = 0; i < itemCount; i++) {
                Item item = items[i];
                if (item != null && (told & 1 << item.number) != 0) {
                    item.giveTo(message, most);
                }
            }
        }

        private Message nextMessage() {
            if (keptCount >= MOST_KEPT) {
                forget(0);
            }
            Message next = messages[keptCount];
            if (next == null) {
                next = new Message();
                messages[keptCount] = next;
            }
            keptCount++;
            lastNumber++;
            next.begin(lastNumber);
            return next;
        }
    }

    /** All that was written, in the order of the writing. */
    private static final class History {
        final int[] ticks = new int[MOST_WRITES];
        final int[] nodes = new int[MOST_WRITES];
        final int[] values = new int[MOST_WRITES];
        int count = 0;

        // An object is used for at most as many calls as there is room for; later answers are free.
        void record(int tick, int node, int value) {
            if (count < MOST_WRITES) {
                ticks[count] = tick;
                nodes[count] = node;
                values[count] = value;
                count++;
            }
        }

        /**
         * Counts anew what an item queued. Between two writes its node has one value, of which the
         * first sample alone can leave the band: so a stretch between two writes counts at most once.
         */
        int countQueued(Item item, int now) {
            int value = valueBefore(item.writesBefore, item.node);
            int last = value;
            int from = item.addedAt;
            int queued = 1;
            for (int i = item.writesBefore; i < count; i++) {
                if (nodes[i] == item.node) {
                    if (isSampled(item, from, ticks[i]) && item.leavesBand(value, last)) {
                        queued++;
                        last = value;
                    }
                    value = values[i];
                    from = ticks[i];
                }
            }
            if (isSampled(item, from, now) && item.leavesBand(value, last)) {
                queued++;
            }
            return queued;
        }

        private int valueBefore(int writes, int node) {
            for (int i = writes - 1; i >= 0; i--) {
                if (nodes[i] == node) {
                    return values[i];
                }
            }
            return 0;
        }

        // A write comes behind the samples of its own tick, so the first tick is out and the last is in.
        private boolean isSampled(Item item, int after, int upTo) {
            int every = item.timer.every;
            if (every < 1) {
                return false;
            }
            return (upTo - item.addedAt) / every > (after - item.addedAt) / every;
        }
    }
}

import java.util.ArrayList;
import java.util.Comparator;
import java.util.List;
import java.util.NoSuchElementException;

/** The document once more, with lists and remainders in place of rows and counters, to compare with. */
final class Model {
    private static final class Sample {
        final int item;
        final int value;
        boolean marked;

        Sample(int item, int value) {
            this.item = item;
            this.value = value;
        }
    }

    private static final class Item {
        final List<Sample> queue = new ArrayList<>();
        final List<Integer> queued = new ArrayList<>();
        final List<Integer> triggers = new ArrayList<>();
        int subscription;
        int node;
        int every;
        int size;
        boolean dropsOldest;
        int band;
        int added;
        boolean reports = true;
    }

    private static final class Subscription {
        final List<Integer> kept = new ArrayList<>();
        final List<List<Sample>> messages = new ArrayList<>();
        int number;
        int every;
        int idle;
        int life;
        int priority;
        int most;
        int opened;
        int idleRow;
        int lostRow;
        int keepAlives;
        boolean over;
    }

    private final int[] nodes = new int[10];
    private final List<Subscription> subscriptions = new ArrayList<>();
    private final List<Item> items = new ArrayList<>();
    private int requests;
    private int tick;

    int write(int node, int value) {
        bounds(node >= 0 && node <= 9);
        argument(value >= 0 && value <= 1000);
        int before = nodes[node];
        nodes[node] = value;
        return before;
    }

    int open(int every, int idle, int life, int priority, int most) {
        argument(every >= 1 && every <= 20 && idle >= 1 && idle <= 10 && life >= 1 && life <= 30);
        argument(priority >= 0 && priority <= 9 && most >= 1 && most <= 10);
        state(subscriptions.size() < 4);
        Subscription made = new Subscription();
        made.number = subscriptions.size();
        made.every = every;
        made.idle = idle;
        made.life = life;
        made.priority = priority;
        made.most = most;
        made.opened = tick;
        subscriptions.add(made);
        return made.number;
    }

    int close(int subscription) {
        Subscription closed = at(subscription);
        closed.over = true;
        int gone = 0;
        for (Item item : items) {
            gone += item.subscription == closed.number ? 1 : 0;
        }
        return gone;
    }

    int add(int subscription, int node, int every, int size, boolean dropsOldest, int band) {
        at(subscription);
        bounds(node >= 0 && node <= 9);
        argument(every >= 1 && every <= 20 && size >= 1 && size <= 4 && band >= 0 && band <= 1000);
        state(items.size() < 16);
        Item made = new Item();
        made.subscription = subscription;
        made.node = node;
        made.every = every;
        made.size = size;
        made.dropsOldest = dropsOldest;
        made.band = band;
        made.added = tick;
        items.add(made);
        sample(made);
        return items.size() - 1;
    }

    boolean setReporting(int item, boolean reports) {
        Item set = itemOf(item);
        boolean before = set.reports;
        set.reports = reports;
        return before != reports;
    }

    boolean link(int item, int other, boolean triggers) {
        Item from = itemOf(item);
        Item to = itemOf(other);
        argument(item != other && from.subscription == to.subscription);
        boolean before = from.triggers.contains(other);
        if (triggers && !before) {
            from.triggers.add(other);
        }
        if (!triggers) {
            from.triggers.remove((Integer) other);
        }
        return before != triggers;
    }

    int request() {
        state(requests < 10);
        requests++;
        return requests;
    }

    int pass(int ticks) {
        argument(ticks >= 1 && ticks <= 50);
        state(tick + ticks <= 5000);
        int sent = 0;
        for (int i = 0; i < ticks; i++) {
            tick++;
            for (Item item : items) {
                if (!subscriptions.get(item.subscription).over && (tick - item.added) % item.every == 0) {
                    sample(item);
                }
            }
            List<Subscription> turn = new ArrayList<>(subscriptions);
            turn.sort(Comparator.comparingInt((Subscription s) -> -s.priority).thenComparingInt(s -> s.number));
            for (Subscription next : turn) {
                if (!next.over && (tick - next.opened) % next.every == 0) {
                    sent += publish(next);
                }
            }
        }
        return sent;
    }

    int requests() {
        return requests;
    }

    int tick() {
        return tick;
    }

    boolean acknowledge(int subscription, int message) {
        return at(subscription).kept.remove((Integer) message);
    }

    int size(int subscription, int message) {
        Subscription asked = at(subscription);
        return asked.kept.contains(message) ? asked.messages.get(message - 1).size() : -1;
    }

    int valueAt(int subscription, int message, int place) {
        return placeOf(subscription, message, place).value;
    }

    int itemAt(int subscription, int message, int place) {
        return placeOf(subscription, message, place).item;
    }

    boolean isMarked(int subscription, int message, int place) {
        return placeOf(subscription, message, place).marked;
    }

    int latest(int subscription) {
        return at(subscription).messages.size();
    }

    int keepAlives(int subscription) {
        return at(subscription).keepAlives;
    }

    int waiting(int item) {
        return itemOf(item).queue.size();
    }

    int queued(int item) {
        return itemOf(item).queued.size();
    }

    boolean isOpen(int subscription) {
        argument(subscription >= 0 && subscription <= 3);
        return subscription < subscriptions.size() && !subscriptions.get(subscription).over;
    }

    private void sample(Item item) {
        int value = nodes[item.node];
        int count = item.queued.size();
        if (count > 0) {
            int last = item.queued.get(count - 1);
            if (last - item.band <= value && value <= last + item.band) {
                return;
            }
        }
        item.queued.add(value);
        Sample sample = new Sample(items.indexOf(item), value);
        boolean full = item.queue.size() == item.size;
        if (full) {
            item.queue.remove(item.dropsOldest ? 0 : item.size - 1);
        }
        item.queue.add(sample);
        if (full) {
            item.queue.get(item.dropsOldest ? 0 : item.queue.size() - 1).marked = true;
        }
    }

    private int publish(Subscription subscription) {
        List<Item> told = toldOf(subscription);
        if (told.isEmpty()) {
            subscription.idleRow++;
        } else {
            subscription.idleRow = 0;
        }
        if (told.isEmpty() && subscription.idleRow < subscription.idle) {
            return 0;
        }
        if (requests == 0) {
            subscription.lostRow++;
            subscription.over = subscription.lostRow == subscription.life;
            return 0;
        }
        requests--;
        subscription.idleRow = 0;
        subscription.lostRow = 0;
        if (told.isEmpty()) {
            subscription.keepAlives++;
            return 1;
        }
        sendMessage(subscription, told);
        return 1;
    }

    private List<Item> toldOf(Subscription subscription) {
        List<Item> told = new ArrayList<>();
        for (int i = 0; i < items.size(); i++) {
            Item item = items.get(i);
            if (item.subscription == subscription.number && !item.queue.isEmpty()
                    && (item.reports || isTriggered(i))) {
                told.add(item);
            }
        }
        return told;
    }

    private boolean isTriggered(int item) {
        for (Item other : items) {
            if (other.reports && !other.queue.isEmpty() && other.triggers.contains(item)) {
                return true;
            }
        }
        return false;
    }

    private static void sendMessage(Subscription subscription, List<Item> told) {
        List<Sample> message = new ArrayList<>();
        for (Item item : told) {
            while (!item.queue.isEmpty() && message.size() < subscription.most) {
                message.add(item.queue.remove(0));
            }
        }
        subscription.messages.add(message);
        subscription.kept.add(subscription.messages.size());
        if (subscription.kept.size() == 6) {
            subscription.kept.remove(0);
        }
    }

    private Subscription at(int number) {
        bounds(number >= 0 && number < subscriptions.size());
        bounds(!subscriptions.get(number).over);
        return subscriptions.get(number);
    }

    private Item itemOf(int number) {
        bounds(number >= 0 && number < items.size());
        at(items.get(number).subscription);
        return items.get(number);
    }

    private Sample placeOf(int subscription, int message, int place) {
        Subscription asked = at(subscription);
        if (!asked.kept.contains(message) || place < 0 || place >= asked.messages.get(message - 1).size()) {
            throw new NoSuchElementException();
        }
        return asked.messages.get(message - 1).get(place);
    }

    private static void bounds(boolean holds) {
        if (!holds) {
            throw new IndexOutOfBoundsException();
        }
    }

    private static void argument(boolean holds) {
        if (!holds) {
            throw new IllegalArgumentException();
        }
    }

    private static void state(boolean holds) {
        if (!holds) {
            throw new IllegalStateException();
        }
    }
}

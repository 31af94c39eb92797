/** All promises: long runs of calls, each answered as the model in Model.java answers it. */
final class ModelTest {
    private static final int RUNS = 3000;
    private static final int CALLS = 512;
    private static final int LAST_CALLS = 160;
    private static final Check CHECK = new Check("ModelTest");

    private final Dice dice;
    private final PlantServer server = new PlantServer();
    private final Model model = new Model();
    private final String name;
    // How a run leans: few or many writes, requests, long passes, wrong arguments.
    private final int step;
    private final int longest;
    private final int wrongOnceIn;
    private final int asksOnceIn;

    private ModelTest(int run) {
        dice = new Dice(run);
        name = "run " + run;
        step = dice.oneOf(1, 3, 30, 1000);
        longest = dice.oneOf(1, 3, 8, 50);
        wrongOnceIn = dice.oneOf(15, 40, 1000);
        asksOnceIn = dice.oneOf(2, 4, 12);
    }

    public static void main(String[] args) {
        for (int run = 0; run < RUNS; run++) {
            new ModelTest(run).play();
        }
        CHECK.end();
    }

    private void play() {
        for (int call = 0; call < CALLS - LAST_CALLS; call++) {
            if (dice.once(3)) {
                question();
            } else {
                change();
            }
        }
        for (int call = 0; call < LAST_CALLS; call++) {
            question();
        }
    }

    private void same(String call, Check.Call got, Check.Call want) {
        CHECK.due(name + ": " + call, Check.outcome(got), Check.outcome(want));
    }

    /** Mostly a number in the range, now and then one at or beyond its ends. */
    private int in(int least, int most) {
        if (dice.once(wrongOnceIn)) {
            return dice.oneOf(least - 1, most + 1, Integer.MIN_VALUE, Integer.MAX_VALUE, least, most);
        }
        return dice.from(least, most);
    }

    private int subscription() {
        return in(0, 3);
    }

    private int item() {
        return in(0, 15);
    }

    private int message(int subscription) {
        Object latest = Check.outcome(() -> model.latest(subscription));
        return latest instanceof Integer number ? in(Math.max(0, number - 6), number + 1) : in(0, 3);
    }

    private void change() {
        int kind = dice.below(24);
        if (kind < 7) {
            write();
        } else if (kind < 12) {
            int ticks = in(1, longest);
            same("pass " + ticks, () -> server.pass(ticks), () -> model.pass(ticks));
        } else if (kind < 16) {
            request();
        } else if (kind < 18) {
            add();
        } else if (kind < 20) {
            link();
        } else {
            rareChange(kind);
        }
    }

    private void rareChange(int kind) {
        if (kind == 20) {
            int item = item();
            boolean reports = dice.once(2);
            same("setReporting " + item + " " + reports,
                () -> server.setReporting(item, reports), () -> model.setReporting(item, reports));
        } else if (kind == 21) {
            open();
        } else if (kind == 22 && dice.once(12)) {
            int subscription = subscription();
            same("close " + subscription, () -> server.close(subscription), () -> model.close(subscription));
        } else {
            int subscription = subscription();
            int message = message(subscription);
            same("acknowledge " + subscription + " " + message,
                () -> server.acknowledge(subscription, message), () -> model.acknowledge(subscription, message));
        }
    }

    private void write() {
        int node = dice.once(4) ? in(0, 9) : dice.below(2);
        int value = in(0, 4) * step;
        same("write " + node + " " + value, () -> server.write(node, value), () -> model.write(node, value));
    }

    private void request() {
        if (dice.once(asksOnceIn)) {
            same("request", server::request, model::request);
        } else {
            write();
        }
    }

    private void open() {
        int every = dice.once(2) ? in(1, 3) : in(1, 20);
        int idle = in(1, 10);
        int life = dice.once(4) ? in(1, 30) : in(20, 30);
        int priority = dice.once(2) ? in(0, 9) : 5;
        int most = in(1, 10);
        same("open " + every + " " + idle + " " + life + " " + priority + " " + most,
            () -> server.open(every, idle, life, priority, most),
            () -> model.open(every, idle, life, priority, most));
    }

    private void add() {
        int subscription = subscription();
        int node = dice.once(2) ? in(0, 9) : 0;
        int every = dice.once(3) ? in(1, 20) : in(1, 2);
        int size = in(1, 4);
        boolean dropsOldest = dice.once(2);
        int band = dice.once(3) ? in(0, 1000) : in(0, 2) * step;
        same("add " + subscription + " " + node + " " + every + " " + size + " " + dropsOldest + " " + band,
            () -> server.add(subscription, node, every, size, dropsOldest, band),
            () -> model.add(subscription, node, every, size, dropsOldest, band));
    }

    private void link() {
        int item = item();
        int other = item();
        boolean triggers = !dice.once(3);
        same("link " + item + " " + other + " " + triggers,
            () -> server.link(item, other, triggers), () -> model.link(item, other, triggers));
    }

    private void question() {
        int subscription = subscription();
        int item = item();
        switch (dice.below(10)) {
            case 0 -> same("requests", server::requests, model::requests);
            case 1 -> same("tick", server::tick, model::tick);
            case 2 -> same("latest " + subscription,
                () -> server.latest(subscription), () -> model.latest(subscription));
            case 3 -> same("keepAlives " + subscription,
                () -> server.keepAlives(subscription), () -> model.keepAlives(subscription));
            case 4 -> same("waiting " + item, () -> server.waiting(item), () -> model.waiting(item));
            case 5 -> same("queued " + item, () -> server.queued(item), () -> model.queued(item));
            case 6 -> same("queuedByHistory " + item,
                () -> server.queuedByHistory(item), () -> model.queued(item));
            case 7 -> same("isOpen " + subscription,
                () -> server.isOpen(subscription), () -> model.isOpen(subscription));
            default -> messageQuestion(subscription);
        }
    }

    private void messageQuestion(int subscription) {
        int message = message(subscription);
        int place = dice.once(2) ? 0 : in(0, 4);
        String of = " " + subscription + " " + message + " " + place;
        switch (dice.below(4)) {
            case 0 -> same("size" + of,
                () -> server.size(subscription, message), () -> model.size(subscription, message));
            case 1 -> same("valueAt" + of,
                () -> server.valueAt(subscription, message, place),
                () -> model.valueAt(subscription, message, place));
            case 2 -> same("itemAt" + of,
                () -> server.itemAt(subscription, message, place),
                () -> model.itemAt(subscription, message, place));
            default -> same("isMarked" + of,
                () -> server.isMarked(subscription, message, place),
                () -> model.isMarked(subscription, message, place));
        }
    }
}

import java.util.Set;

/** Any arguments in any order, also far behind the 512th call: only what the document names is thrown. */
final class SturdyTest {
    private static final int RUNS = 60;
    private static final int CALLS = 5000;
    private static final Check CHECK = new Check("SturdyTest");
    private static final Set<String> NAMED = Set.of(
        "java.lang.IndexOutOfBoundsException", "java.lang.IllegalArgumentException",
        "java.lang.IllegalStateException", "java.util.NoSuchElementException");

    private final Dice dice;
    private final PlantServer server = new PlantServer();

    private SturdyTest(int run) {
        dice = new Dice(run);
    }

    public static void main(String[] args) {
        for (int run = 0; run < RUNS; run++) {
            new SturdyTest(run).play(run);
        }
        CHECK.end();
    }

    private void play(int run) {
        for (int call = 0; call < CALLS; call++) {
            Object outcome = Check.outcome(this::anyCall);
            if (outcome instanceof String thrown) {
                CHECK.due("run " + run + ", call " + call + ": named is " + thrown, NAMED.contains(thrown), true);
            }
        }
        CHECK.due("the tick is not beyond the last", server.tick() <= 5000, true);
    }

    private int any() {
        return dice.once(12)
            ? dice.oneOf(Integer.MIN_VALUE, Integer.MAX_VALUE, -1, 16, 50, 51, 1000, 1001)
            : dice.from(0, dice.oneOf(1, 3, 5, 15));
    }

    private Object anyCall() {
        int a = any();
        int b = any();
        int c = any();
        boolean yes = dice.once(2);
        switch (dice.below(24)) {
            case 0: return server.open(a, b, dice.from(1, 30), c, any());
            case 1: return dice.once(40) ? server.close(a) : server.latest(a);
            case 2: return server.add(a, b, c, any(), yes, any());
            case 3: return server.setReporting(a, yes);
            case 4: return server.link(a, b, yes);
            case 5: case 6: return server.request();
            case 7: return server.pass(a);
            case 8: return server.requests();
            case 9: return server.tick();
            case 10: return server.acknowledge(a, b);
            case 11: return server.size(a, b);
            case 12: return server.valueAt(a, server.latest(a) - b, c);
            case 13: return server.itemAt(a, server.latest(a) - b, c);
            case 14: return server.isMarked(a, server.latest(a) - b, c);
            case 15: return server.keepAlives(a);
            case 16: return server.waiting(a);
            case 17: return server.queued(a);
            case 18: return server.queuedByHistory(a);
            case 19: return server.isOpen(a);
            default: return server.write(a, b);
        }
    }
}

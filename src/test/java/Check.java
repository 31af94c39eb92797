import java.util.Objects;

/** Counts the answers that are not as due, for one test. */
final class Check {
    interface Call {
        Object answer();
    }

    private final String test;
    private int wrong = 0;
    private int seen = 0;

    Check(String test) {
        this.test = test;
    }

    void due(String what, Object got, Object want) {
        seen++;
        if (!Objects.equals(got, want)) {
            wrong++;
            System.out.println(test + ": " + what + " answered " + got + ", due is " + want);
        }
    }

    /** The call throws just this class, none below it, and leaves every answer of the server as it was. */
    void refuses(String what, PlantServer server, Class<? extends Exception> want, Call call) {
        String before = Picture.of(server);
        due(what, outcome(call), want.getName());
        due(what + ": what the refused call changes", Picture.of(server), before);
    }

    /** What a call answers, or the name of what it throws. */
    static Object outcome(Call call) {
        try {
            return call.answer();
        } catch (RuntimeException e) {
            return e.getClass().getName();
        }
    }

    void end() {
        System.out.println(test + ": " + seen + " answers, " + wrong + " not as due");
        if (seen == 0 || wrong != 0) {
            System.exit(1);
        }
    }
}

import java.util.function.Consumer;
import java.util.function.ToIntFunction;

/** Counts and prints the answers that are not due; what a test's main method ends with. */
final class Checks {
    private static int wrong = 0;
    private static int made = 0;

    private Checks() {
    }

    static void due(String call, long got, long want) {
        made++;
        if (got != want) {
            report(call + " answered " + got + ", due is " + want);
        }
    }

    static void due(String call, boolean got, boolean want) {
        due(call, got ? 1 : 0, want ? 1 : 0);
    }

    static void dueDouble(String call, double got, double want) {
        made++;
        if (Double.compare(got, want) != 0) {
            report(call + " answered " + got + ", due is " + want);
        }
    }

    /** The call must throw just this class, and leave the object as it was. */
    static void refuses(String call, Class<? extends RuntimeException> want, Replay x, Consumer<CircusLines> act) {
        made++;
        CircusLines asked = x.fresh();
        String got = "nothing";
        try {
            act.accept(asked);
        } catch (RuntimeException e) {
            got = e.getClass().getName();
        }
        if (!got.equals(want.getName())) {
            report(call + " threw " + got + ", due is " + want.getName());
        }
        dueUnchanged(call, asked, x);
    }

    /** The call must answer and leave the object as it was. */
    static void duePure(String call, Replay x, ToIntFunction<CircusLines> act, int want) {
        CircusLines asked = x.fresh();
        due(call, act.applyAsInt(asked), want);
        dueUnchanged(call, asked, x);
    }

    private static void dueUnchanged(String call, CircusLines asked, Replay x) {
        if (!future(asked).equals(future(x.fresh()))) {
            report(call + " changed the object");
        }
    }

    /** What the object tells now and later: what a digest doesn't show at once shows in the beats to come. */
    private static String future(CircusLines x) {
        StringBuilder seen = new StringBuilder().append(x.digest());
        for (int beat = 0; beat < 30; beat++) {
            seen.append(' ').append(x.go(1)).append(' ').append(x.digest());
        }
        seen.append(' ').append(x.go(200)).append(' ').append(x.digest()).append(' ').append(x.mean());
        return seen.toString();
    }

    static void report(String text) {
        wrong++;
        if (wrong <= 50) {
            System.out.println(text);
        }
    }

    static void end() {
        System.out.println(made + " checks, " + wrong + " wrong");
        if (wrong != 0) {
            System.exit(1);
        }
    }
}

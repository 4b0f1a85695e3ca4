import java.util.function.Consumer;
import java.util.function.ToIntFunction;

/** Counts and prints the answers that are not due; what a test's main method ends with. */
final class Checks {
    private static int wrong = 0;
    private static int made = 0;
    private static int sentences = 0;
    private static String sentence = "";

    private Checks() {
    }

    /** The sentence of the document that the checks from here on would see broken: told with each that fails. */
    static void sentence(String text) {
        sentences++;
        sentence = "[" + text + "] ";
    }

    static void due(String call, long got, long want) {
        made++;
        if (got != want) {
            report(call + " answered " + got + ", due is " + want);
        }
    }

    static void due(String call, boolean got, boolean want) {
        due(call, got ? 1 : 0, want ? 1 : 0);
    }

    static void dueDouble(String call, double got, double want) {
        made++;
        if (Double.compare(got, want) != 0) {
            report(call + " answered " + got + ", due is " + want);
        }
    }

    static void duePlaces(Replay x, int trapeze, int... places) {
        for (int beats = 0; beats < places.length; beats++) {
            due("place(" + trapeze + ", " + beats + ")", x.place(trapeze, beats), places[beats]);
        }
    }

    static void dueTrapeze(Replay x, int trapeze, int... told) {
        for (int what = 0; what < told.length; what++) {
            due("trapeze(" + trapeze + ", " + what + ")", x.trapeze(trapeze, what), told[what]);
        }
    }

    static void dueFlyer(Replay x, int flyer, int... told) {
        for (int what = 0; what < told.length; what++) {
            due("flyer(" + flyer + ", " + what + ")", x.flyer(flyer, what), told[what]);
        }
    }

    static void dueCalled(Replay x, int cue, int... told) {
        for (int what = 0; what < told.length; what++) {
            due("called(" + cue + ", " + what + ")", x.called(cue, what), told[what]);
        }
    }

    static void dueCounts(Replay x, int... told) {
        for (int what = 0; what < told.length; what++) {
            due("count(" + what + ")", x.count(what), told[what]);
        }
    }

    static void dueThrown(String call, Class<? extends RuntimeException> want, CircusLines x, Consumer<CircusLines> act) {
        made++;
        String got = "nothing";
        try {
            act.accept(x);
        } catch (RuntimeException e) {
            got = e.getClass().getName();
        }
        if (!got.equals(want.getName())) {
            report(call + " threw " + got + ", due is " + want.getName());
        }
    }

    /** The call must throw just this class, and leave the object as it was. */
    static void refuses(String call, Class<? extends RuntimeException> want, Replay x, Consumer<CircusLines> act) {
        CircusLines asked = x.fresh();
        dueThrown(call, want, asked, act);
        dueUnchanged(call, asked, x);
    }

    /** The call must answer and leave the object as it was. */
    static void duePure(String call, Replay x, ToIntFunction<CircusLines> act, int want) {
        CircusLines asked = x.fresh();
        due(call, act.applyAsInt(asked), want);
        dueUnchanged(call, asked, x);
    }

    private static void dueUnchanged(String call, CircusLines asked, Replay x) {
        if (!future(asked).equals(future(x.fresh()))) {
            report(call + " changed the object");
        }
    }

    /** What the object tells now and later: what a digest doesn't show at once shows in the beats to come. */
    private static String future(CircusLines x) {
        StringBuilder seen = new StringBuilder().append(x.digest());
        for (int beat = 0; beat < 30; beat++) {
            seen.append(' ').append(x.go(1)).append(' ').append(x.digest());
        }
        seen.append(' ').append(x.go(200)).append(' ').append(x.digest()).append(' ').append(x.mean());
        return seen.toString();
    }

    static void report(String text) {
        wrong++;
        if (wrong <= 50) {
            System.out.println(sentence + text);
        }
    }

    static void end() {
        String of = sentences == 0 ? "" : " of " + sentences + " sentences";
        System.out.println(made + " checks" + of + ", " + wrong + " wrong");
        if (wrong != 0) {
            System.exit(1);
        }
    }
}

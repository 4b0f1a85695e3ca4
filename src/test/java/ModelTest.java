import java.util.Arrays;
import java.util.function.LongSupplier;

/** Runs of 512 calls, drawn by a fixed rule, each answer compared with that of Naive. */
public final class ModelTest {
    private static final int RUNS = 3000;
    private static final int CALLS = 512;
    private static final String[] NAMES = {"rig", "weigh", "mend", "spread", "join", "mount", "cue", "trapeze",
        "flyer", "called", "count", "place", "netAt", "go", "meets", "flight", "advise", "foresee", "mean", "digest"};
    // How often each is drawn, of the sum of all.
    private static final int[] OFTEN = {8, 6, 5, 2, 8, 22, 22, 3, 5, 2, 2, 3, 2, 30, 4, 6, 2, 2, 2, 8};

    private static long seed;
    private static long catches;
    private static long breaks;
    private static long netFalls;
    private static long hurts;

    private static int draw(int many) {
        seed = seed * 6364136223846793005L + 1442695040888963407L;
        return (int) Long.remainderUnsigned(seed >>> 33, many);
    }

    /** Mostly in the range, at times just out of it or far out. */
    private static int about(int least, int most) {
        int luck = draw(60);
        if (luck == 0) {
            return least - 1;
        }
        if (luck == 1) {
            return most + 1;
        }
        if (luck == 2) {
            return draw(2) == 0 ? Integer.MIN_VALUE : Integer.MAX_VALUE;
        }
        if (luck < 7) {
            return draw(2) == 0 ? least : most;
        }
        return least + draw(Math.max(1, most - least + 1));
    }

    private static int drawName() {
        int sum = Arrays.stream(OFTEN).sum();
        int left = draw(sum);
        int name = 0;
        while (left >= OFTEN[name]) {
            left -= OFTEN[name];
            name++;
        }
        return name;
    }

    private static int[] arguments(String name, Naive n, boolean slow) {
        int trapeze = about(0, n.swings.size() - 1);
        int flyer = about(0, n.people.size() - 1);
        switch (name) {
            case "rig": return new int[] {about(0, 99), about(1, 20), about(0, 10), about(1, draw(2) == 0 ? 4 : 99)};
            case "weigh": return new int[] {trapeze, about(0, 10)};
            case "mend": return new int[] {trapeze};
            case "spread": return new int[] {about(-50, 60), about(0, 150)};
            case "mount": return new int[] {flyer, trapeze};
            case "cue": return cueArguments(n, flyer);
            case "trapeze": return new int[] {trapeze, about(0, 7)};
            case "flyer": return new int[] {flyer, about(0, 4)};
            case "called": return new int[] {about(0, n.calls.size() - 1), about(0, 4)};
            case "count": return new int[] {about(0, 8)};
            case "place": return new int[] {trapeze, about(0, 500)};
            case "netAt": return new int[] {about(-50, 150)};
            case "go": return new int[] {draw(slow ? 40 : 4) == 0 ? about(1, 200) : about(1, 3)};
            case "meets": return new int[] {trapeze, about(0, n.swings.size() - 1)};
            case "flight": return new int[] {flyer, trapeze};
            case "advise": return new int[] {trapeze, about(0, n.swings.size() - 1)};
            case "foresee": return new int[] {about(1, 200), about(4, 8)};
            default: return new int[0];
        }
    }

    /** Half of the cues follow a flight that there is, so that flyers are caught often enough. */
    private static int[] cueArguments(Naive n, int flyer) {
        boolean known = flyer >= 0 && flyer < n.people.size() && !n.swings.isEmpty();
        int flight = known && draw(2) == 0 ? n.flight(flyer, draw(n.swings.size())) : -1;
        if (flight >= 0) {
            return new int[] {n.beat, flyer, flight % 100 - 20, flight / 100};
        }
        int beat = draw(20) == 0 ? about(0, 9999) : n.beat + about(0, 9);
        return new int[] {beat, flyer, about(-20, 20), about(1, 6)};
    }

    private static long ask(CircusLines x, String name, int[] a) {
        switch (name) {
            case "rig": return x.rig(a[0], a[1], a[2], a[3]);
            case "weigh": return x.weigh(a[0], a[1]);
            case "mend": return x.mend(a[0]);
            case "spread": return x.spread(a[0], a[1]);
            case "join": return x.join();
            case "mount": return x.mount(a[0], a[1]);
            case "cue": return x.cue(a[0], a[1], a[2], a[3]);
            case "trapeze": return x.trapeze(a[0], a[1]);
            case "flyer": return x.flyer(a[0], a[1]);
            case "called": return x.called(a[0], a[1]);
            case "count": return x.count(a[0]);
            case "place": return x.place(a[0], a[1]);
            case "netAt": return x.netAt(a[0]) ? 1 : 0;
            case "go": return x.go(a[0]);
            case "meets": return x.meets(a[0], a[1]);
            case "flight": return x.flight(a[0], a[1]);
            case "advise": return x.advise(a[0], a[1]);
            case "foresee": return x.foresee(a[0], a[1]);
            case "mean": return Double.doubleToLongBits(x.mean());
            default: return x.digest();
        }
    }

    private static long ask(Naive x, String name, int[] a) {
        switch (name) {
            case "rig": return x.rig(a[0], a[1], a[2], a[3]);
            case "weigh": return x.weigh(a[0], a[1]);
            case "mend": return x.mend(a[0]);
            case "spread": return x.spread(a[0], a[1]);
            case "join": return x.join();
            case "mount": return x.mount(a[0], a[1]);
            case "cue": return x.cue(a[0], a[1], a[2], a[3]);
            case "trapeze": return x.trapeze(a[0], a[1]);
            case "flyer": return x.flyer(a[0], a[1]);
            case "called": return x.called(a[0], a[1]);
            case "count": return x.count(a[0]);
            case "place": return x.place(a[0], a[1]);
            case "netAt": return x.netAt(a[0]) ? 1 : 0;
            case "go": return x.go(a[0]);
            case "meets": return x.meets(a[0], a[1]);
            case "flight": return x.flight(a[0], a[1]);
            case "advise": return x.advise(a[0], a[1]);
            case "foresee": return x.foresee(a[0], a[1]);
            case "mean": return Double.doubleToLongBits(x.mean());
            default: return x.digest();
        }
    }

    private static String outcome(LongSupplier call) {
        try {
            return Long.toString(call.getAsLong());
        } catch (RuntimeException e) {
            return "throws." + e.getClass().getSimpleName();
        }
    }

    private static boolean runIsAsDue(int run) {
        seed = run * 7919L + 17;
        boolean slow = draw(3) > 0;
        CircusLines x = new CircusLines();
        Naive n = new Naive();
        for (int call = 1; call <= CALLS; call++) {
            String name = call % 16 == 0 ? "digest" : NAMES[drawName()];
            int[] a = arguments(name, n, slow);
            String want = outcome(() -> ask(n, name, a));
            String got = outcome(() -> ask(x, name, a));
            if (!got.equals(want)) {
                Checks.report("run " + run + ", call " + call + ": " + name + Arrays.toString(a) + " answered " + got
                    + ", due is " + want);
                return false;
            }
        }
        for (Naive.Person p : n.people) {
            catches += p.caught;
        }
        breaks += n.breaks;
        netFalls += n.netFalls;
        hurts += n.hurts;
        return true;
    }

    public static void main(String[] args) {
        int good = 0;
        for (int run = 1; run <= RUNS; run++) {
            good += runIsAsDue(run) ? 1 : 0;
        }
        Checks.due("runs as they are due", good, RUNS);
        System.out.println(catches + " catches, " + breaks + " breaks, " + netFalls + " falls into nets, " + hurts + " hurt");
        Checks.due("the runs have enough of all", Math.min(Math.min(catches, breaks), Math.min(netFalls, hurts)) > RUNS, true);
        Checks.end();
    }
}

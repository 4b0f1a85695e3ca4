import java.util.ArrayList;
import java.util.List;
import java.util.function.Consumer;

/** The two sentences on exceptions that hold for all methods, and that a question changes nothing. */
public final class EdgesOfRefusalsTest {
    private record Refusal(String call, Class<? extends RuntimeException> due, Consumer<CircusLines> act) {
    }

    private static final int LOWEST = Scenes.LOWEST;
    private static final int HIGHEST = Scenes.HIGHEST;

    private static Replay wornAndWeighed() {
        Replay x = Scenes.busy();
        x.weigh(0, 5);
        x.go(1);
        x.mount(4, 0);
        x.weigh(2, 0);
        x.go(6);
        return x;
    }

    private static Replay fullAndLater() {
        Replay x = Scenes.full();
        x.go(4);
        return x;
    }

    private static Replay[] scenes() {
        return new Replay[] {new Replay(), Scenes.oneHanging(), Scenes.busy(), wornAndWeighed(), Scenes.full(), fullAndLater()};
    }

    /** What is refused whatever there is. */
    private static List<Refusal> always() {
        List<Refusal> all = new ArrayList<>();
        int[][] rigs = {{-1, 1, 0, 1}, {100, 1, 0, 1}, {0, 0, 0, 1}, {0, 21, 0, 1}, {0, 1, -1, 1}, {0, 1, 11, 1}, {0, 1, 0, 0},
            {0, 1, 0, 100}, {-1, 0, -1, 0}, {LOWEST, LOWEST, LOWEST, LOWEST}, {HIGHEST, HIGHEST, HIGHEST, HIGHEST}};
        for (int[] r : rigs) {
            all.add(new Refusal("rig", Scenes.BAD_ARGUMENT, c -> c.rig(r[0], r[1], r[2], r[3])));
        }
        int[][] nets = {{-51, 0}, {0, 151}, {1, 0}, {-51, 151}, {LOWEST, HIGHEST}, {HIGHEST, LOWEST}};
        for (int[] n : nets) {
            all.add(new Refusal("spread", Scenes.BAD_ARGUMENT, c -> c.spread(n[0], n[1])));
        }
        for (int no : new int[] {-1, 6, 8, 20, LOWEST, HIGHEST}) {
            all.add(new Refusal("weigh", Scenes.BAD_INDEX, c -> c.weigh(no, 5)));
            all.add(new Refusal("mend", Scenes.BAD_INDEX, c -> c.mend(no)));
            all.add(new Refusal("mount", Scenes.BAD_INDEX, c -> c.mount(0, no)));
            all.add(new Refusal("trapeze", Scenes.BAD_INDEX, c -> c.trapeze(no, 0)));
            all.add(new Refusal("place", Scenes.BAD_INDEX, c -> c.place(no, 0)));
            all.add(new Refusal("meets", Scenes.BAD_INDEX, c -> c.meets(0, no)));
            all.add(new Refusal("meets", Scenes.BAD_INDEX, c -> c.meets(no, 0)));
            all.add(new Refusal("flight", Scenes.BAD_INDEX, c -> c.flight(0, no)));
            all.add(new Refusal("advise", Scenes.BAD_INDEX, c -> c.advise(0, no)));
            all.add(new Refusal("advise", Scenes.BAD_INDEX, c -> c.advise(no, 0)));
        }
        for (int no : new int[] {-1, 8, 20, LOWEST, HIGHEST}) {
            all.add(new Refusal("mount", Scenes.BAD_INDEX, c -> c.mount(no, 0)));
            all.add(new Refusal("cue", Scenes.BAD_INDEX, c -> c.cue(500, no, 0, 1)));
            all.add(new Refusal("flyer", Scenes.BAD_INDEX, c -> c.flyer(no, 0)));
            all.add(new Refusal("flight", Scenes.BAD_INDEX, c -> c.flight(no, 0)));
        }
        for (int no : new int[] {-1, 20, LOWEST, HIGHEST}) {
            all.add(new Refusal("called", Scenes.BAD_INDEX, c -> c.called(no, 0)));
        }
        for (int what : new int[] {-1, 9, LOWEST, HIGHEST}) {
            all.add(new Refusal("trapeze", Scenes.BAD_INDEX, c -> c.trapeze(0, what)));
            all.add(new Refusal("flyer", Scenes.BAD_INDEX, c -> c.flyer(0, what)));
            all.add(new Refusal("called", Scenes.BAD_INDEX, c -> c.called(0, what)));
            all.add(new Refusal("count", Scenes.BAD_INDEX, c -> c.count(what)));
            all.add(new Refusal("foresee", Scenes.BAD_INDEX, c -> c.foresee(7, what)));
        }
        for (int beats : new int[] {0, -1, 201, LOWEST, HIGHEST}) {
            all.add(new Refusal("go", Scenes.BAD_ARGUMENT, c -> c.go(beats)));
            all.add(new Refusal("foresee", Scenes.BAD_ARGUMENT, c -> c.foresee(beats, 4)));
        }
        return all;
    }

    /** What else is refused in the scene busy: trapeze 1 is broken, 2 is full, and who hangs, flies or is hurt can't mount. */
    private static List<Refusal> whenBusy() {
        List<Refusal> all = new ArrayList<>();
        all.add(new Refusal("weigh of a broken one", Scenes.BAD_STATE, c -> c.weigh(1, 5)));
        for (int weight : Scenes.outside(0, 10)) {
            all.add(new Refusal("weigh", Scenes.BAD_ARGUMENT, c -> c.weigh(0, weight)));
        }
        for (int who : new int[] {0, 1, 2, 3, 5}) {
            all.add(new Refusal("mount of " + who, Scenes.BAD_STATE, c -> c.mount(who, 0)));
        }
        for (int who : new int[] {4, 6}) {
            all.add(new Refusal("mount on a broken one", Scenes.BAD_STATE, c -> c.mount(who, 1)));
            all.add(new Refusal("mount on a full one", Scenes.BAD_STATE, c -> c.mount(who, 2)));
        }
        for (int beat : new int[] {2, 0, -1, LOWEST}) {
            all.add(new Refusal("cue of " + beat, Scenes.BAD_STATE, c -> c.cue(beat, 0, 0, 1)));
        }
        all.add(new Refusal("cue of 10000", Scenes.BAD_ARGUMENT, c -> c.cue(10000, 0, 0, 1)));
        all.add(new Refusal("cue by 21", Scenes.BAD_ARGUMENT, c -> c.cue(3, 0, 21, 1)));
        all.add(new Refusal("cue in 7", Scenes.BAD_ARGUMENT, c -> c.cue(3, 0, 0, 7)));
        all.add(new Refusal("place behind 501", Scenes.BAD_ARGUMENT, c -> c.place(0, 501)));
        all.add(new Refusal("place behind -1", Scenes.BAD_ARGUMENT, c -> c.place(1, -1)));
        all.add(new Refusal("advise on one", Scenes.BAD_ARGUMENT, c -> c.advise(2, 2)));
        return all;
    }

    /** What else is refused in the scene full, as there is no more room. */
    private static List<Refusal> whenFull() {
        List<Refusal> all = new ArrayList<>();
        all.add(new Refusal("a 7th rig", Scenes.BAD_STATE, c -> c.rig(50, 10, 2, 5)));
        all.add(new Refusal("a 4th spread", Scenes.BAD_STATE, c -> c.spread(20, 30)));
        all.add(new Refusal("a 9th join", Scenes.BAD_STATE, CircusLines::join));
        all.add(new Refusal("a 21st cue", Scenes.BAD_STATE, c -> c.cue(500, 0, 0, 1)));
        for (int trapeze = 0; trapeze < 4; trapeze++) {
            int full = trapeze;
            all.add(new Refusal("mount on a full one", Scenes.BAD_STATE, c -> c.mount(0, full)));
        }
        return all;
    }

    private static void changesNothing() {
        Checks.sentence("A method that throws an exception changes nothing");
        for (Replay x : scenes()) {
            for (Refusal one : always()) {
                Checks.refuses(one.call, one.due, x, one.act);
            }
        }
        for (Refusal one : whenBusy()) {
            Checks.refuses(one.call, one.due, Scenes.busy(), one.act);
        }
        for (Refusal one : whenFull()) {
            Checks.refuses(one.call, one.due, Scenes.full(), one.act);
        }
    }

    /** All refused calls on one object, one behind the other: it goes on as one that was asked none of them. */
    private static void changesNothingAllTogether() {
        Checks.sentence("A method that throws an exception changes nothing: all of them on one object");
        List<Refusal> busy = always();
        busy.addAll(whenBusy());
        List<Refusal> full = always();
        full.addAll(whenFull());
        CircusLines x = Scenes.busy().fresh();
        CircusLines y = Scenes.full().fresh();
        for (Refusal one : busy) {
            Checks.dueThrown(one.call, one.due, x, one.act);
        }
        for (Refusal one : full) {
            Checks.dueThrown(one.call, one.due, y, one.act);
        }
        goOnAlike(x, Scenes.busy().fresh());
        goOnAlike(y, Scenes.full().fresh());
    }

    private static void goOnAlike(CircusLines x, CircusLines untouched) {
        for (int i = 0; i < 40; i++) {
            Checks.due("digest()", x.digest(), untouched.digest());
            Checks.due("go(1)", x.go(1), untouched.go(1));
        }
        Checks.due("go(200)", x.go(200), untouched.go(200));
        Checks.due("digest()", x.digest(), untouched.digest());
        Checks.dueDouble("mean()", x.mean(), untouched.mean());
    }

    private static void theFirstNamedIsThrown() {
        Checks.sentence("If several exceptions apply, the one that is named first is thrown");
        Replay full = fullAndLater();
        Replay busy = Scenes.busy();
        Checks.refuses("rig, wrong and a 7th", Scenes.BAD_ARGUMENT, full, c -> c.rig(100, 10, 2, 5));
        Checks.refuses("weigh, none and wrong", Scenes.BAD_INDEX, busy, c -> c.weigh(3, 11));
        Checks.refuses("weigh, wrong and broken", Scenes.BAD_ARGUMENT, busy, c -> c.weigh(1, 11));
        Checks.refuses("spread, wrong and a 4th", Scenes.BAD_ARGUMENT, full, c -> c.spread(-51, 0));
        Checks.refuses("spread, backwards and a 4th", Scenes.BAD_ARGUMENT, full, c -> c.spread(1, 0));
        Checks.refuses("mount, none and who hangs", Scenes.BAD_INDEX, busy, c -> c.mount(0, 3));
        Checks.refuses("mount, none and who flies", Scenes.BAD_INDEX, busy, c -> c.mount(3, 3));
        Checks.refuses("mount, none and who is hurt", Scenes.BAD_INDEX, busy, c -> c.mount(5, 3));
        Checks.refuses("mount, none and a broken one", Scenes.BAD_INDEX, busy, c -> c.mount(7, 1));
        Checks.refuses("mount, none and a full one", Scenes.BAD_INDEX, busy, c -> c.mount(7, 2));
        Checks.refuses("cue, none and wrong", Scenes.BAD_INDEX, busy, c -> c.cue(3, 7, 21, 7));
        Checks.refuses("cue, none and too late", Scenes.BAD_INDEX, busy, c -> c.cue(10000, 7, 0, 1));
        Checks.refuses("cue, none and gone by", Scenes.BAD_INDEX, busy, c -> c.cue(2, 7, 0, 1));
        Checks.refuses("cue, none and a 21st", Scenes.BAD_INDEX, full, c -> c.cue(10, 8, 0, 1));
        Checks.refuses("cue, none and all else", Scenes.BAD_INDEX, full, c -> c.cue(-1, 8, 21, 7));
        Checks.refuses("cue, wrong reach and gone by", Scenes.BAD_ARGUMENT, busy, c -> c.cue(2, 0, 21, 1));
        Checks.refuses("cue, wrong time and gone by", Scenes.BAD_ARGUMENT, busy, c -> c.cue(-1, 0, 0, 7));
        Checks.refuses("cue, wrong reach and a 21st", Scenes.BAD_ARGUMENT, full, c -> c.cue(10, 0, 21, 1));
        Checks.refuses("cue, wrong time and a 21st", Scenes.BAD_ARGUMENT, full, c -> c.cue(10, 0, 0, 7));
        Checks.refuses("cue, too late and a 21st", Scenes.BAD_ARGUMENT, full, c -> c.cue(10000, 0, 0, 1));
        Checks.refuses("cue, gone by and a 21st", Scenes.BAD_STATE, full, c -> c.cue(3, 0, 0, 1));
        Checks.refuses("place, none and wrong", Scenes.BAD_INDEX, busy, c -> c.place(3, 501));
        Checks.refuses("advise, none and the same", Scenes.BAD_INDEX, busy, c -> c.advise(3, 3));
        Checks.refuses("foresee, wrong and no such", Scenes.BAD_ARGUMENT, busy, c -> c.foresee(201, 3));
    }

    private static void questionsChangeNothing() {
        Checks.sentence("Returns this: a question changes nothing");
        for (Replay x : scenes()) {
            // An object each, so that none comes to its 512th call.
            for (int a = -1; a <= 8; a++) {
                CircusLines asked = x.fresh();
                for (int b = -1; b <= 8; b++) {
                    askAll(asked, a, b);
                }
                goOnAlike(asked, x.fresh());
            }
        }
    }

    private static void askAll(CircusLines x, int a, int b) {
        List<Consumer<CircusLines>> questions = List.of(c -> c.trapeze(a, b), c -> c.flyer(a, b), c -> c.called(a, b),
            c -> c.count(a), c -> c.place(a, 9 * b), c -> c.netAt(a), c -> c.meets(a, b), c -> c.flight(a, b),
            c -> c.advise(a, b), CircusLines::mean, CircusLines::digest);
        for (Consumer<CircusLines> question : questions) {
            try {
                question.accept(x);
            } catch (IndexOutOfBoundsException | IllegalArgumentException e) {
                // Which of them are refused, the other tests tell.
            }
        }
        try {
            x.foresee(20 * b + 1, a);
        } catch (IndexOutOfBoundsException | IllegalArgumentException e) {
            // As above.
        }
    }

    public static void main(String[] args) {
        changesNothing();
        changesNothingAllTogether();
        theFirstNamedIsThrown();
        questionsChangeNothing();
        Checks.end();
    }
}

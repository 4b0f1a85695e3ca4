/** Each promise of the document by hand: ordinary inputs, the edges that it names, and wrong inputs. */
public final class PromiseTest {
    private static final Class<IndexOutOfBoundsException> BAD_INDEX = IndexOutOfBoundsException.class;
    private static final Class<IllegalArgumentException> BAD_ARGUMENT = IllegalArgumentException.class;
    private static final Class<IllegalStateException> BAD_STATE = IllegalStateException.class;
    private static final int LOWEST = Integer.MIN_VALUE;
    private static final int HIGHEST = Integer.MAX_VALUE;
    private static final int[] NO_NUMBERS = {-1, 6, 7, 8, 20, 21, LOWEST, HIGHEST};

    private static void promise1New() {
        Replay x = new Replay();
        Checks.dueCounts(x, 0, 0, 0, 0, 0, 0, 0, 0, 0);
        Checks.due("netAt(0)", x.netAt(0), false);
        Checks.dueDouble("mean()", x.mean(), 0.0);
        for (int no : new int[] {0, -1}) {
            Checks.refuses("trapeze of none", BAD_INDEX, x, c -> c.trapeze(no, 0));
            Checks.refuses("flyer of none", BAD_INDEX, x, c -> c.flyer(no, 0));
            Checks.refuses("called of none", BAD_INDEX, x, c -> c.called(no, 0));
        }
    }

    private static void promise2Rig() {
        Replay x = new Replay();
        int[][] wrong = {{-1, 1, 0, 1}, {100, 1, 0, 1}, {0, 0, 0, 1}, {0, 21, 0, 1}, {0, 1, -1, 1}, {0, 1, 11, 1},
            {0, 1, 0, 0}, {0, 1, 0, 100}, {LOWEST, 1, 0, 1}, {0, HIGHEST, 0, 1}, {0, 1, HIGHEST, 1}, {0, 1, 0, LOWEST}};
        for (int[] w : wrong) {
            Checks.refuses("rig", BAD_ARGUMENT, x, c -> c.rig(w[0], w[1], w[2], w[3]));
        }
        int[][] right = {{0, 1, 0, 1}, {99, 20, 10, 99}, {50, 10, 2, 5}, {7, 3, 4, 8}, {1, 2, 3, 4}, {9, 9, 9, 9}};
        for (int i = 0; i < right.length; i++) {
            int[] r = right[i];
            Checks.due("rig", x.rig(r[0], r[1], r[2], r[3]), i);
            Checks.dueTrapeze(x, i, r[0], r[1], r[2], r[3], 0, 1, r[0] - r[1], 0);
            Checks.due("count(1)", x.count(1), i + 1);
        }
        Checks.refuses("a 7th rig", BAD_STATE, x, c -> c.rig(50, 10, 2, 5));
        for (int[] w : wrong) {
            Checks.refuses("a 7th, wrong rig", BAD_ARGUMENT, x, c -> c.rig(w[0], w[1], w[2], w[3]));
        }
        Replay later = new Replay();
        later.go(3);
        later.rig(50, 10, 2, 5);
        Checks.duePlaces(later, 0, 40, 45, 50, 55, 60, 55, 50, 45, 40);
    }

    private static void promise3Weigh() {
        Replay x = new Replay();
        x.rig(50, 10, 2, 5);
        x.rig(50, 10, 3, 1);
        x.go(3);
        Checks.due("place before", x.trapeze(0, 6), 55);
        Checks.due("weigh(0, 0)", x.weigh(0, 0), 2);
        Checks.duePlaces(x, 0, 40, 50, 60, 50, 40);
        Checks.due("weigh(0, 10)", x.weigh(0, 10), 0);
        Checks.duePlaces(x, 0, 40, 41, 43, 45, 46, 48, 50, 51, 53, 55, 56, 58, 60, 59, 57);
        x.go(5);
        Checks.due("weigh(0, 10) again", x.weigh(0, 10), 10);
        Checks.due("at its left end", x.trapeze(0, 6), 40);
        for (int no : new int[] {-1, 2, 5, 6, LOWEST, HIGHEST}) {
            Checks.refuses("weigh of none", BAD_INDEX, x, c -> c.weigh(no, 11));
        }
        for (int wrong : new int[] {-1, 11, LOWEST, HIGHEST}) {
            Checks.refuses("weigh", BAD_ARGUMENT, x, c -> c.weigh(1, wrong));
        }
        breakWithTwo(x, 1);
        Checks.refuses("weigh of a broken one", BAD_STATE, x, c -> c.weigh(1, 3));
        Checks.refuses("wrong weigh of a broken one", BAD_ARGUMENT, x, c -> c.weigh(1, 11));
        x.mend(1);
        Checks.due("weigh when mended", x.weigh(1, 4), 3);
    }

    /** Has two new flyers hang from a trapeze of strength 1 until its rope breaks. */
    private static void breakWithTwo(Replay x, int trapeze) {
        x.mount(x.join(), trapeze);
        x.mount(x.join(), trapeze);
        x.go(24);
        Checks.due("it is broken", x.trapeze(trapeze, 5), 0);
    }

    private static void weighSetsTheLeftEnd() {
        Replay x = Scenes.oneHanging();
        x.go(1);
        Checks.due("worn at beat 0", x.trapeze(0, 4), 1);
        x.weigh(0, 2);
        x.go(1);
        Checks.due("worn at beat 1", x.trapeze(0, 4), 2);
        x.go(7);
        Checks.due("worn up to beat 8", x.trapeze(0, 4), 2);
        x.go(1);
        Checks.due("worn at beat 9", x.trapeze(0, 4), 3);
    }

    private static void promise4Mend() {
        Replay x = Scenes.oneHanging();
        x.rig(10, 4, 0, 1);
        x.go(9);
        Checks.due("mend of a whole one", x.mend(0), 2);
        Checks.dueTrapeze(x, 0, 50, 10, 2, 5, 0, 1, 45, 1);
        Checks.due("mend of a new rope", x.mend(0), 0);
        x.weigh(1, 0);
        x.mount(x.join(), 1);
        x.mount(x.join(), 1);
        x.go(6);
        Checks.dueTrapeze(x, 1, 10, 4, 0, 1, 2, 0, 14, 0);
        Checks.due("mend of a broken one", x.mend(1), 2);
        Checks.dueTrapeze(x, 1, 10, 4, 0, 1, 0, 1, 14, 0);
        for (int no : new int[] {-1, 2, 6, LOWEST, HIGHEST}) {
            Checks.refuses("mend of none", BAD_INDEX, x, c -> c.mend(no));
        }
    }

    private static void promise5Spread() {
        Replay x = new Replay();
        int[][] wrong = {{-51, 0}, {151, 151}, {0, 151}, {-51, -51}, {1, 0}, {LOWEST, HIGHEST}, {HIGHEST, LOWEST}};
        for (int[] w : wrong) {
            Checks.refuses("spread", BAD_ARGUMENT, x, c -> c.spread(w[0], w[1]));
        }
        Checks.due("spread(-50, -50)", x.spread(-50, -50), 1);
        Checks.due("spread(150, 150)", x.spread(150, 150), 2);
        Checks.due("spread(-50, 150)", x.spread(-50, 150), 3);
        Checks.refuses("a 4th net", BAD_STATE, x, c -> c.spread(0, 0));
        for (int[] w : wrong) {
            Checks.refuses("a 4th, wrong net", BAD_ARGUMENT, x, c -> c.spread(w[0], w[1]));
        }
    }

    private static void promise6Join() {
        Replay x = new Replay();
        for (int i = 0; i < 8; i++) {
            Checks.due("join()", x.join(), i);
            Checks.dueFlyer(x, i, 0, -1, 0, -1, 0);
            Checks.due("count(3)", x.count(3), i + 1);
        }
        Checks.refuses("a 9th join", BAD_STATE, x, CircusLines::join);
    }

    private static void promise7Mount() {
        Replay x = new Replay();
        x.rig(50, 10, 2, 5);
        x.rig(50, 10, 0, 1);
        for (int i = 0; i < 5; i++) {
            x.join();
        }
        Checks.due("mount(1, 0)", x.mount(1, 0), 1);
        Checks.dueFlyer(x, 1, 1, 0, 0, -1, 0);
        Checks.due("mount(0, 0)", x.mount(0, 0), 2);
        Checks.due("trapeze(0, 7)", x.trapeze(0, 7), 2);
        Checks.refuses("mount on a full one", BAD_STATE, x, c -> c.mount(2, 0));
        Checks.refuses("mount of one who hangs", BAD_STATE, x, c -> c.mount(1, 1));
        for (int no : NO_NUMBERS) {
            Checks.refuses("mount of no flyer", BAD_INDEX, x, c -> c.mount(no, 0));
            Checks.refuses("mount on no trapeze", BAD_INDEX, x, c -> c.mount(1, no));
        }
        Checks.refuses("mount on one not hung yet", BAD_INDEX, x, c -> c.mount(2, 2));
        Checks.refuses("mount of one not joined yet", BAD_INDEX, x, c -> c.mount(5, 1));
        x.spread(60, 60);
        x.cue(0, 0, 20, 2);
        x.cue(0, 1, 19, 1);
        x.mount(2, 1);
        x.mount(3, 1);
        x.go(1);
        Checks.refuses("mount of one who flies", BAD_STATE, x, c -> c.mount(0, 0));
        Checks.refuses("mount on a broken one", BAD_STATE, x, c -> c.mount(4, 1));
        x.go(2);
        Checks.dueFlyer(x, 0, 3, -1, 0, -1, 0);
        Checks.dueFlyer(x, 1, 4, -1, 0, -1, 0);
        Checks.refuses("mount of one who is hurt", BAD_STATE, x, c -> c.mount(1, 0));
        Checks.due("mount of one in a net", x.mount(0, 0), 1);
        Checks.dueFlyer(x, 0, 1, 0, 0, -1, 0);
    }

    private static void promise8Cue() {
        Replay x = new Replay();
        x.join();
        for (int no : NO_NUMBERS) {
            Checks.refuses("cue of no flyer", BAD_INDEX, x, c -> c.cue(-1, no, 21, 0));
        }
        Checks.refuses("cue of one not joined yet", BAD_INDEX, x, c -> c.cue(0, 1, 0, 1));
        int[][] wrong = {{0, -21, 1}, {0, 21, 1}, {0, 0, 0}, {0, 0, 7}, {10000, 0, 1}, {HIGHEST, 0, 1}, {-1, -21, 1},
            {-1, 0, 7}, {0, LOWEST, 1}, {0, 0, HIGHEST}};
        for (int[] w : wrong) {
            Checks.refuses("cue", BAD_ARGUMENT, x, c -> c.cue(w[0], 0, w[1], w[2]));
        }
        Checks.refuses("cue before 0", BAD_STATE, x, c -> c.cue(-1, 0, 0, 1));
        Checks.refuses("cue long before 0", BAD_STATE, x, c -> c.cue(LOWEST, 0, 0, 1));
        x.go(4);
        Checks.refuses("cue of a beat gone by", BAD_STATE, x, c -> c.cue(3, 0, 0, 1));
        Checks.due("cue of the beat now", x.cue(4, 0, -20, 1), 0);
        Checks.due("cue of the last beat", x.cue(9999, 0, 20, 6), 1);
        for (int i = 2; i < 20; i++) {
            Checks.due("cue", x.cue(500 + i, 0, i - 10, 1 + i % 6), i);
        }
        Checks.refuses("a 21st cue", BAD_STATE, x, c -> c.cue(500, 0, 0, 1));
        Checks.refuses("a 21st, wrong cue", BAD_ARGUMENT, x, c -> c.cue(500, 0, 0, 7));
        Checks.refuses("a 21st cue of no flyer", BAD_INDEX, x, c -> c.cue(500, 1, 0, 7));
        for (int i = 2; i < 20; i++) {
            int[] told = {500 + i, 0, i - 10, 1 + i % 6, 0};
            for (int what = 0; what <= 4; what++) {
                Checks.due("called(" + i + ", " + what + ")", x.called(i, what), told[what]);
            }
        }
    }

    private static void promise9Trapeze() {
        Replay x = Scenes.oneHanging();
        Checks.dueTrapeze(x, 0, 50, 10, 2, 5, 0, 1, 40, 1);
        x.go(3);
        Checks.dueTrapeze(x, 0, 50, 10, 2, 5, 1, 1, 55, 1);
        for (int no : NO_NUMBERS) {
            Checks.refuses("trapeze of none", BAD_INDEX, x, c -> c.trapeze(no, 0));
        }
        Checks.refuses("trapeze(1, 0)", BAD_INDEX, x, c -> c.trapeze(1, 0));
        for (int what : new int[] {-1, 8, LOWEST, HIGHEST}) {
            Checks.refuses("trapeze(0, what)", BAD_INDEX, x, c -> c.trapeze(0, what));
        }
    }

    private static void promise10Flyer() {
        Replay x = Scenes.oneHanging();
        x.rig(70, 10, 2, 5);
        Checks.dueFlyer(x, 0, 1, 0, 0, -1, 0);
        x.cue(1, 0, 20, 3);
        x.go(2);
        Checks.dueFlyer(x, 0, 2, -1, 65, 2, 0);
        x.go(2);
        Checks.dueFlyer(x, 0, 2, -1, 65, 0, 0);
        x.go(1);
        Checks.due("caught too far off", x.flyer(0, 0), 4);
        Replay y = Scenes.oneHanging();
        y.rig(70, 10, 2, 5);
        y.cue(0, 0, 20, 4);
        y.cue(4, 0, -20, 4);
        y.go(4);
        Checks.dueFlyer(y, 0, 2, -1, 60, 0, 0);
        y.go(1);
        Checks.dueFlyer(y, 0, 1, 0, 0, -1, 1);
        for (int no : NO_NUMBERS) {
            Checks.refuses("flyer of none", BAD_INDEX, y, c -> c.flyer(no, 0));
        }
        Checks.refuses("flyer(1, 0)", BAD_INDEX, y, c -> c.flyer(1, 0));
        for (int what : new int[] {-1, 5, LOWEST, HIGHEST}) {
            Checks.refuses("flyer(0, what)", BAD_INDEX, y, c -> c.flyer(0, what));
        }
    }

    private static void promise11Called() {
        Replay x = Scenes.oneHanging();
        x.cue(2, 0, -7, 3);
        x.cue(2, 0, 8, 4);
        Checks.due("called(0, 4) when open", x.called(0, 4), 0);
        x.go(2);
        Checks.due("called(0, 4) still open", x.called(0, 4), 0);
        x.go(1);
        int[][] told = {{2, 0, -7, 3, 1}, {2, 0, 8, 4, 2}};
        for (int cue = 0; cue < 2; cue++) {
            for (int what = 0; what <= 4; what++) {
                Checks.due("called(" + cue + ", " + what + ")", x.called(cue, what), told[cue][what]);
            }
        }
        Checks.due("the first of both counts", x.flyer(0, 2), 43);
        for (int no : NO_NUMBERS) {
            Checks.refuses("called of none", BAD_INDEX, x, c -> c.called(no, 0));
        }
        Checks.refuses("called(2, 0)", BAD_INDEX, x, c -> c.called(2, 0));
        for (int what : new int[] {-1, 5, LOWEST, HIGHEST}) {
            Checks.refuses("called(0, what)", BAD_INDEX, x, c -> c.called(0, what));
        }
    }

    private static void promise12Count() {
        Replay x = new Replay();
        x.rig(50, 10, 2, 9);
        x.rig(10, 5, 0, 1);
        x.rig(90, 1, 5, 9);
        for (int i = 0; i < 7; i++) {
            x.join();
        }
        x.mount(0, 1);
        x.mount(1, 1);
        x.mount(2, 0);
        x.mount(3, 0);
        x.mount(4, 2);
        x.spread(5, 5);
        x.cue(1, 2, 0, 6);
        x.cue(0, 3, 20, 1);
        x.cue(1, 6, 0, 1);
        x.cue(7, 0, 0, 1);
        x.cue(8, 0, 0, 1);
        Checks.dueCounts(x, 0, 3, 3, 7, 5, 0, 0, 0, 5);
        x.go(2);
        Checks.dueCounts(x, 2, 3, 2, 7, 1, 1, 2, 1, 2);
        for (int what : new int[] {-1, 9, LOWEST, HIGHEST}) {
            Checks.refuses("count", BAD_INDEX, x, c -> c.count(what));
        }
    }

    private static void promise13Place() {
        Replay x = new Replay();
        x.rig(50, 10, 2, 5);
        x.rig(0, 1, 1, 1);
        x.rig(99, 20, 10, 1);
        x.rig(3, 7, 0, 1);
        Checks.duePlaces(x, 0, 40, 45, 50, 55, 60, 55, 50, 45, 40, 45);
        Checks.duePlaces(x, 1, -1, -1, 0, 1, 1, 0, -1);
        Checks.duePlaces(x, 2, 79, 82, 85, 89, 92, 95, 99, 102, 105, 109, 112, 115, 119, 116, 113, 109, 106, 103, 99, 96,
            93, 89, 86, 83, 79);
        Checks.duePlaces(x, 3, -4, 3, 10, 3, -4);
        Checks.due("place(0, 500)", x.place(0, 500), 60);
        x.go(3);
        Checks.duePlaces(x, 0, 55, 60, 55);
        Checks.due("place(0, 500)", x.place(0, 500), 45);
        x.weigh(1, 1);
        breakWithTwo(x, 1);
        Checks.duePlaces(x, 1, -1, -1, 0, 1, 1, 0, -1);
        for (int no : new int[] {-1, 4, 6, LOWEST, HIGHEST}) {
            Checks.refuses("place of none", BAD_INDEX, x, c -> c.place(no, -1));
        }
        for (int beats : new int[] {-1, 501, LOWEST, HIGHEST}) {
            Checks.refuses("place", BAD_ARGUMENT, x, c -> c.place(0, beats));
        }
    }

    private static void promise14NetAt() {
        Replay x = new Replay();
        x.spread(-50, -48);
        x.spread(150, 150);
        x.spread(0, 3);
        int[] in = {-50, -49, -48, 0, 1, 2, 3, 150};
        int[] out = {-51, -47, -1, 4, 149, 151, LOWEST, HIGHEST};
        for (int place : in) {
            Checks.due("netAt(" + place + ")", x.netAt(place), true);
        }
        for (int place : out) {
            Checks.due("netAt(" + place + ")", x.netAt(place), false);
        }
    }

    private static void promise15Go() {
        Replay x = Scenes.oneHanging();
        for (int beats : new int[] {0, -1, 201, LOWEST, HIGHEST}) {
            Checks.refuses("go", BAD_ARGUMENT, x, c -> c.go(beats));
        }
        x.cue(8, 0, 0, 5);
        x.cue(15, 0, 0, 1);
        Checks.due("go(200)", x.go(200), 0);
        Checks.due("count(0)", x.count(0), 200);
        Replay y = Scenes.oneHanging();
        y.cue(0, 0, 20, 4);
        y.cue(8, 0, 0, 8 - 2);
        Checks.due("go(4), before the catch", y.go(4), 0);
        Checks.due("go(1), with the catch", y.go(1), 1);
        Checks.due("go(1), behind the catch", y.go(1), 0);
        y.weigh(0, 0);
        Checks.due("go(9)", y.go(9), 0);
        Checks.due("hurt", y.count(7), 1);
        catchesAreByNumbers();
        catchesAreNear();
        fallsAreByPlaces();
        ropesWearAtLeftEnds();
    }

    private static void catchesAreByNumbers() {
        Replay x = new Replay();
        x.rig(50, 10, 2, 99);
        x.rig(50, 10, 2, 99);
        x.rig(50, 10, 2, 99);
        for (int i = 0; i < 6; i++) {
            x.join();
        }
        x.mount(0, 2);
        x.mount(1, 2);
        x.mount(2, 0);
        x.mount(3, 1);
        x.cue(0, 1, 20, 4);
        x.cue(0, 0, 20, 4);
        x.cue(4, 3, 0, 6);
        x.cue(4, 1, 0, 1);
        Checks.due("go(5)", x.go(5), 2);
        Checks.due("flyer 0 is caught first", x.flyer(0, 1), 0);
        Checks.due("flyer 1 by the next that is not full", x.flyer(1, 1), 1);
        Checks.due("who let go in this beat left room", x.trapeze(1, 7), 1);
        Checks.due("a cue in the beat of the catch is missed", x.called(3, 4), 2);
        Replay y = new Replay();
        y.rig(50, 10, 2, 1);
        y.rig(50, 10, 2, 99);
        for (int i = 0; i < 3; i++) {
            y.join();
        }
        y.mount(0, 0);
        y.mount(1, 0);
        y.mount(2, 1);
        y.cue(0, 2, 20, 4);
        Checks.due("go(5)", y.go(5), 1);
        Checks.due("a broken one catches none", y.flyer(2, 1), 1);
    }

    private static void catchesAreNear() {
        for (int off = -4; off <= 4; off++) {
            // The flyer comes to 20 in beat 1; trapeze 0 is at 3 then, trapeze 1 at 20 + off.
            Replay x = new Replay();
            x.rig(20, 20, 10, 99);
            x.rig(25 + off, 10, 2, 99);
            x.join();
            x.mount(0, 0);
            x.cue(0, 0, 20, 1);
            boolean near = off >= -2 && off <= 2;
            Checks.due("catch off by " + off, x.go(2), near ? 1 : 0);
            Checks.dueFlyer(x, 0, near ? 1 : 4, near ? 1 : -1, 0, -1, near ? 1 : 0);
        }
    }

    private static void fallsAreByPlaces() {
        for (int place = 58; place <= 62; place++) {
            Replay x = Scenes.oneHanging();
            x.spread(59, 61);
            x.cue(3, 0, place - 55, 5);
            Checks.due("go(9)", x.go(9), 0);
            Checks.dueFlyer(x, 0, place >= 59 && place <= 61 ? 3 : 4, -1, 0, -1, 0);
        }
    }

    private static void ropesWearAtLeftEnds() {
        Replay x = new Replay();
        x.rig(0, 1, 1, 3);
        x.join();
        x.mount(0, 0);
        int[] worn = {1, 1, 1, 1, 1, 1, 2, 2, 2, 2, 2, 2, 3, 3, 3, 3, 3, 3, 4};
        for (int beat = 0; beat < worn.length; beat++) {
            x.go(1);
            Checks.due("worn in beat " + beat, x.trapeze(0, 4), worn[beat]);
            Checks.due("whole in beat " + beat, x.trapeze(0, 5), worn[beat] > 3 ? 0 : 1);
            Checks.due("flyer in beat " + beat, x.flyer(0, 0), worn[beat] > 3 ? 4 : 1);
        }
        x.go(100);
        Checks.due("a broken rope wears no more", x.trapeze(0, 4), 4);
        Replay y = new Replay();
        y.rig(10, 5, 2, 1);
        y.rig(20, 9, 4, 1);
        y.join();
        y.join();
        y.spread(5, 5);
        y.mount(0, 0);
        y.mount(1, 0);
        y.go(1);
        Checks.due("both fall at its place", y.count(6), 2);
        Checks.dueFlyer(y, 0, 3, -1, 0, -1, 0);
        Checks.due("nobody's rope wears not", y.trapeze(1, 4), 0);
        Replay z = Scenes.oneHanging();
        z.cue(8, 0, 0, 1);
        z.go(9);
        Checks.due("who let go at the left end wears it not", z.trapeze(0, 4), 1);
        catchesWearAtOnce();
    }

    private static void catchesWearAtOnce() {
        Replay x = new Replay();
        x.rig(20, 10, 10, 99);
        x.rig(30, 10, 1, 99);
        x.join();
        x.mount(0, 0);
        x.cue(0, 0, 10, 6);
        Checks.due("go(7)", x.go(7), 1);
        Checks.dueFlyer(x, 0, 1, 0, 0, -1, 1);
        Replay y = new Replay();
        y.rig(20, 10, 10, 99);
        y.rig(40, 10, 1, 99);
        y.join();
        y.mount(0, 0);
        y.cue(0, 0, 20, 6);
        Checks.due("go(7)", y.go(7), 1);
        Checks.due("caught at the left end", y.flyer(0, 1), 1);
        Checks.due("worn in the beat of the catch", y.trapeze(1, 4), 1);
    }

    private static void promise16Meets() {
        Replay x = new Replay();
        x.rig(50, 10, 2, 5);
        x.rig(62, 20, 2, 1);
        x.rig(70, 10, 3, 5);
        x.rig(99, 1, 0, 5);
        Checks.duePure("meets at once", x, c -> c.meets(0, 1), 0);
        Checks.duePure("meets at once", x, c -> c.meets(1, 0), 0);
        Checks.duePure("meets itself", x, c -> c.meets(3, 3), 0);
        Checks.duePure("meets(0, 2)", x, c -> c.meets(0, 2), 20);
        Checks.duePure("never", x, c -> c.meets(0, 3), -1);
        x.go(1);
        Checks.duePure("a beat later", x, c -> c.meets(0, 2), 19);
        for (int no : NO_NUMBERS) {
            Checks.refuses("meets", BAD_INDEX, x, c -> c.meets(no, 0));
            Checks.refuses("meets", BAD_INDEX, x, c -> c.meets(0, no));
        }
        Checks.refuses("meets(4, 0)", BAD_INDEX, x, c -> c.meets(4, 0));
        Checks.refuses("meets(0, 4)", BAD_INDEX, x, c -> c.meets(0, 4));
        breakWithTwo(x, 1);
        x.weigh(0, 2);
        Checks.duePure("with a broken one", x, c -> c.meets(0, 1), -1);
        Checks.duePure("with a broken one", x, c -> c.meets(1, 0), -1);
        Checks.duePure("a broken one itself", x, c -> c.meets(1, 1), -1);
        x.mend(1);
        Checks.duePure("a mended one itself", x, c -> c.meets(1, 1), 0);
        meetsInAtMost200();
    }

    private static void meetsInAtMost200() {
        // At most 50 and at least 52: near in beats that are 11 more than 22s and 1 more than 24s, so 121 and 385.
        Replay x = new Replay();
        x.rig(30, 20, 9, 5);
        x.go(1);
        x.rig(70, 18, 10, 5);
        Checks.due("meets(0, 1)", x.meets(0, 1), 120);
        x.go(121);
        for (int later = 263; later >= 0; later--) {
            Checks.due("meets(0, 1)", x.meets(0, 1), later <= 200 ? later : -1);
            x.go(1);
        }
    }

    private static void promise17Flight() {
        Replay x = Scenes.oneHanging();
        x.rig(50, 10, 2, 5);
        x.rig(62, 2, 0, 5);
        x.rig(99, 1, 0, 5);
        x.join();
        // From 40 to one that is at 45 then: the least reach is 3.
        Checks.duePure("flight(0, 0)", x, c -> c.flight(0, 0), 123);
        Checks.duePure("flight(0, 1)", x, c -> c.flight(0, 1), 123);
        // Trapeze 2 is at 60, 62, 64, 62, 60: the reach of 20 is enough for 62.
        Checks.duePure("flight(0, 2)", x, c -> c.flight(0, 2), 140);
        Checks.duePure("flight(0, 3)", x, c -> c.flight(0, 3), -1);
        Checks.duePure("of one who stands aside", x, c -> c.flight(1, 0), -1);
        x.go(4);
        // From 60 to 55: the least reach is -7.
        Checks.duePure("flight(0, 0)", x, c -> c.flight(0, 0), 113);
        for (int no : NO_NUMBERS) {
            Checks.refuses("flight", BAD_INDEX, x, c -> c.flight(no, 0));
            Checks.refuses("flight", BAD_INDEX, x, c -> c.flight(0, no));
            Checks.refuses("flight of one aside", BAD_INDEX, x, c -> c.flight(1, no));
        }
        x.cue(4, 0, 0, 6);
        x.go(1);
        Checks.duePure("of one who flies", x, c -> c.flight(0, 0), -1);
        flightsOfSixBeats();
    }

    private static void flightsOfSixBeats() {
        Replay x = new Replay();
        x.rig(20, 20, 10, 1);
        x.rig(58, 20, 10, 1);
        x.join();
        x.mount(0, 0);
        // From 0: trapeze 1 is at 38 and goes right.
        Checks.duePure("too far", x, c -> c.flight(0, 1), -1);
        Replay y = new Replay();
        y.rig(40, 20, 10, 5);
        y.rig(20, 20, 4, 1);
        y.join();
        y.mount(0, 0);
        // From 20: trapeze 1 is at 6 in a beat, to which a reach of -16 is enough.
        Checks.duePure("to the left", y, c -> c.flight(0, 1), 104);
        Replay z = new Replay();
        z.rig(1, 1, 4, 9);
        z.rig(42, 20, 4, 1);
        for (int i = 0; i < 3; i++) {
            z.join();
        }
        z.mount(0, 0);
        z.go(6);
        z.mount(1, 1);
        z.mount(2, 1);
        // From 2: trapeze 1 is at 62 now, at 29 in five beats and at 22 in six.
        Checks.duePure("in six beats, to a full one", z, c -> c.flight(0, 1), 638);
        z.go(12);
        Checks.due("trapeze 1 is broken", z.trapeze(1, 5), 0);
        Checks.duePure("to a broken one", z, c -> c.flight(0, 1), 638);
    }

    private static void promise18Advise() {
        Replay x = new Replay();
        x.rig(50, 10, 2, 5);
        x.rig(50, 10, 4, 1);
        x.rig(99, 1, 0, 5);
        Checks.duePure("at once by each", x, c -> c.advise(0, 1), 0);
        Checks.duePure("by none", x, c -> c.advise(0, 2), -1);
        x.go(2);
        // Trapeze 1 is at 46, then 50; trapeze 0 would be at 40, then 50 by 0.
        Checks.duePure("advise(0, 1)", x, c -> c.advise(0, 1), 0);
        // Trapeze 0 is at 50, 55, 60; trapeze 1 would be at 40, 50, 60 by 0.
        Checks.duePure("advise(1, 0)", x, c -> c.advise(1, 0), 0);
        for (int no : NO_NUMBERS) {
            Checks.refuses("advise", BAD_INDEX, x, c -> c.advise(no, 0));
            Checks.refuses("advise", BAD_INDEX, x, c -> c.advise(0, no));
            Checks.refuses("advise of none twice", BAD_INDEX, x, c -> c.advise(no, no));
        }
        Checks.refuses("advise(3, 3)", BAD_INDEX, x, c -> c.advise(3, 3));
        Checks.refuses("advise(0, 0)", BAD_ARGUMENT, x, c -> c.advise(0, 0));
        adviseTriesEach();
        adviseLooksAt200Beats();
        breakWithTwo(x, 1);
        Checks.refuses("a broken one and itself", BAD_ARGUMENT, x, c -> c.advise(1, 1));
        Checks.duePure("with a broken one", x, c -> c.advise(0, 1), -1);
        Checks.duePure("with a broken one", x, c -> c.advise(1, 0), -1);
    }

    /** The advice must be what weigh and meets tell, tried one by one on rings that are built alike. */
    private static void adviseTriesEach() {
        boolean[] advised = new boolean[11];
        for (int beats = 1; beats <= 40; beats++) {
            for (int shift = 0; shift <= 40; shift += 3) {
                int best = -1;
                int soonest = 201;
                for (int weight = 0; weight <= 10; weight++) {
                    Replay tried = twoTrapezes(beats, shift);
                    tried.weigh(0, weight);
                    int meets = tried.meets(0, 1);
                    if (meets >= 0 && meets < soonest) {
                        soonest = meets;
                        best = weight;
                    }
                }
                Replay x = twoTrapezes(beats, shift);
                Checks.duePure("advise(0, 1)", x, c -> c.advise(0, 1), best);
                if (best >= 0) {
                    advised[best] = true;
                }
            }
        }
        int kinds = 0;
        for (boolean one : advised) {
            kinds += one ? 1 : 0;
        }
        Checks.due("many weights are the best at times", kinds >= 5, true);
    }

    /** Found by trying all: by 9 alone the first meets in 200 beats, by 10 alone the second would in 218. */
    private static void adviseLooksAt200Beats() {
        CircusLines x = new CircusLines();
        x.rig(5, 20, 8, 9);
        x.go(10);
        x.rig(40, 19, 0, 9);
        Checks.due("advise(1, 0)", x.advise(1, 0), 9);
        x.weigh(1, 9);
        Checks.due("meets(1, 0)", x.meets(1, 0), 200);
        CircusLines y = new CircusLines();
        y.rig(4, 20, 9, 9);
        y.go(13);
        y.rig(40, 20, 0, 9);
        Checks.due("advise(1, 0)", y.advise(1, 0), -1);
        y.weigh(1, 10);
        Checks.due("meets(1, 0)", y.meets(1, 0), -1);
        y.go(18);
        Checks.due("meets(1, 0)", y.meets(1, 0), 200);
    }

    private static Replay twoTrapezes(int beats, int shift) {
        Replay x = new Replay();
        x.rig(30, 20, 2, 5);
        x.rig(30 + shift, 17, 7, 5);
        x.go(beats);
        return x;
    }

    private static void promise19Foresee() {
        Replay x = new Replay();
        x.rig(50, 10, 2, 3);
        x.rig(70, 10, 2, 3);
        x.join();
        x.join();
        x.join();
        x.mount(0, 0);
        x.mount(1, 0);
        x.mount(2, 1);
        x.spread(40, 40);
        x.cue(0, 2, 0, 4);
        x.cue(4, 0, 20, 1);
        // In beat 4 flyer 0 leaves room on trapeze 0 for flyer 2, falls in beat 5, and in beat 8 the rope breaks.
        int[][] due = {{1, 2, 1, 0, 0, 1}, {5, 2, 1, 0, 0, 0}, {6, 2, 0, 0, 1, 0}, {8, 2, 0, 0, 1, 0},
            {9, 0, 0, 2, 1, 0}, {200, 0, 0, 2, 1, 0}};
        for (int[] row : due) {
            for (int what = 4; what <= 8; what++) {
                int asked = what;
                Checks.duePure("foresee(" + row[0] + ", " + what + ")", x, c -> c.foresee(row[0], asked), row[what - 3]);
            }
        }
        for (int beats : new int[] {0, -1, 201, LOWEST, HIGHEST}) {
            Checks.refuses("foresee", BAD_ARGUMENT, x, c -> c.foresee(beats, 3));
            Checks.refuses("foresee", BAD_ARGUMENT, x, c -> c.foresee(beats, 4));
        }
        for (int what : new int[] {-1, 0, 1, 2, 3, 9, LOWEST, HIGHEST}) {
            Checks.refuses("foresee", BAD_INDEX, x, c -> c.foresee(1, what));
        }
        x.go(1);
        Checks.duePure("foresee with one who flies", x, c -> c.foresee(200, 7), 1);
        Checks.due("go(4)", x.go(4), 1);
        Checks.duePure("foresee with one who was caught", x, c -> c.foresee(200, 6), 2);
        x.go(10);
        Checks.duePure("foresee with a broken rope", x, c -> c.foresee(1, 4), 0);
        Checks.due("cue 1 is done", x.called(1, 4), 1);
    }

    private static void promise20Mean() {
        Replay x = Scenes.oneHanging();
        Checks.dueDouble("mean()", x.mean(), 0.0);
        x.cue(0, 0, 20, 4);
        x.go(5);
        Checks.dueDouble("mean()", x.mean(), 1.0);
        x.join();
        Checks.dueDouble("mean()", x.mean(), 0.5);
        x.join();
        Checks.dueDouble("mean()", x.mean(), 1.0 / 3.0);
        x.cue(12, 0, -10, 2);
        x.go(10);
        Checks.dueDouble("mean()", x.mean(), 2.0 / 3.0);
    }

    private static long digestOf(int... numbers) {
        long d = 1061;
        for (int x : numbers) {
            d = d * 31 + x;
        }
        return d;
    }

    private static void promise21Digest() {
        Replay x = new Replay();
        Checks.due("digest of a new one", x.digest(), digestOf(0, 0, 0, 0, 0, 0, 0, 0, 0));
        x.rig(5, 20, 2, 5);
        x.rig(70, 10, 0, 9);
        Checks.due("digest with trapezes", x.digest(), digestOf(0, 2, 2, 0, 0, 0, 0, 0, 0,
            5, 20, 2, 5, 0, 1, -15, 0, 70, 10, 0, 9, 0, 1, 60, 0));
        x.join();
        x.join();
        x.mount(1, 0);
        x.cue(0, 1, -3, 6);
        x.cue(4, 0, 2, 1);
        x.spread(-50, -4);
        x.spread(3, 150);
        Checks.due("digest with all", x.digest(), digestOf(0, 2, 2, 2, 1, 0, 0, 0, 2,
            5, 20, 2, 5, 0, 1, -15, 1, 70, 10, 0, 9, 0, 1, 60, 0,
            0, -1, 0, -1, 0, 1, 0, 0, -1, 0,
            0, 1, -3, 6, 0, 4, 0, 2, 1, 0,
            -50, -4, 3, 150));
        x.go(1);
        Checks.due("digest a beat later", x.digest(), digestOf(1, 2, 2, 2, 0, 1, 0, 0, 1,
            5, 20, 2, 5, 0, 1, -5, 0, 70, 10, 0, 9, 0, 1, 70, 0,
            0, -1, 0, -1, 0, 2, -1, -18, 5, 0,
            0, 1, -3, 6, 1, 4, 0, 2, 1, 0,
            -50, -4, 3, 150));
        Checks.due("digest twice", x.digest(), x.digest());
    }

    public static void main(String[] args) {
        promise1New();
        promise2Rig();
        promise3Weigh();
        weighSetsTheLeftEnd();
        promise4Mend();
        promise5Spread();
        promise6Join();
        promise7Mount();
        promise8Cue();
        promise9Trapeze();
        promise10Flyer();
        promise11Called();
        promise12Count();
        promise13Place();
        promise14NetAt();
        promise15Go();
        promise16Meets();
        promise17Flight();
        promise18Advise();
        promise19Foresee();
        promise20Mean();
        promise21Digest();
        Checks.end();
    }
}

/** The edges that promises 1 to 5 name, each with the sentence that it would see broken. */
public final class EdgesOfRiggingTest {
    private static void newWithoutAny() {
        Checks.sentence("Promise 1: Creates a ring without trapezes and flyers, in the beat 0");
        Replay x = new Replay();
        Checks.dueCounts(x, 0, 0, 0, 0, 0, 0, 0, 0, 0);
        for (int number : new int[] {0, -1, 1, Scenes.LOWEST, Scenes.HIGHEST}) {
            Checks.refuses("weigh", Scenes.BAD_INDEX, x, c -> c.weigh(number, 0));
            Checks.refuses("mend", Scenes.BAD_INDEX, x, c -> c.mend(number));
            Checks.refuses("mount", Scenes.BAD_INDEX, x, c -> c.mount(number, number));
            Checks.refuses("cue", Scenes.BAD_INDEX, x, c -> c.cue(0, number, 0, 1));
            Checks.refuses("trapeze", Scenes.BAD_INDEX, x, c -> c.trapeze(number, 0));
            Checks.refuses("flyer", Scenes.BAD_INDEX, x, c -> c.flyer(number, 0));
            Checks.refuses("called", Scenes.BAD_INDEX, x, c -> c.called(number, 0));
            Checks.refuses("place", Scenes.BAD_INDEX, x, c -> c.place(number, 0));
            Checks.refuses("meets", Scenes.BAD_INDEX, x, c -> c.meets(number, number));
            Checks.refuses("flight", Scenes.BAD_INDEX, x, c -> c.flight(number, number));
            Checks.refuses("advise", Scenes.BAD_INDEX, x, c -> c.advise(number, number));
        }
        for (int place : new int[] {0, -50, 150, Scenes.LOWEST, Scenes.HIGHEST}) {
            Checks.due("netAt(" + place + ")", x.netAt(place), false);
        }
        for (int what = 4; what <= 8; what++) {
            Checks.due("foresee(200, " + what + ")", x.foresee(200, what), 0);
        }
        Checks.dueDouble("mean()", x.mean(), 0.0);
        Checks.due("go(200)", x.go(200), 0);
        Checks.dueCounts(x, 200, 0, 0, 0, 0, 0, 0, 0, 0);
    }

    private static void eachNewOneIsItsOwn() {
        Checks.sentence("Promise 1: Creates a ring: another one than those before");
        CircusLines first = new CircusLines();
        first.rig(50, 10, 2, 5);
        first.join();
        first.mount(0, 0);
        first.cue(0, 0, 0, 1);
        first.spread(0, 9);
        first.go(3);
        CircusLines second = new CircusLines();
        for (int what = 0; what <= 8; what++) {
            Checks.due("count(" + what + ") of the second", second.count(what), 0);
        }
        Checks.due("netAt(5) of the second", second.netAt(5), false);
        Checks.due("rig of the second", second.rig(9, 1, 0, 1), 0);
        Checks.due("trapeze(0, 0) of the first", first.trapeze(0, 0), 50);
        Checks.due("count(0) of the first", first.count(0), 3);
    }

    /** Each bound of each argument, with the others in the middle of their ranges. */
    private static void rigsAtEachBound(Replay x, int least, int most, int argument, Replay sixHung) {
        int[] good = {50, 10, 5, 50};
        for (int value : new int[] {least, least + 1, most - 1, most}) {
            int[] a = good.clone();
            a[argument] = value;
            Replay y = new Replay();
            Checks.due("rig with " + value, y.rig(a[0], a[1], a[2], a[3]), 0);
            Checks.dueTrapeze(y, 0, a[0], a[1], a[2], a[3], 0, 1, a[0] - a[1], 0);
            Checks.refuses("a 7th rig with " + value, Scenes.BAD_STATE, sixHung, c -> c.rig(a[0], a[1], a[2], a[3]));
        }
        for (int value : Scenes.outside(least, most)) {
            int[] a = good.clone();
            a[argument] = value;
            Checks.refuses("rig with " + value, Scenes.BAD_ARGUMENT, x, c -> c.rig(a[0], a[1], a[2], a[3]));
            Checks.refuses("a 7th rig with " + value, Scenes.BAD_ARGUMENT, sixHung, c -> c.rig(a[0], a[1], a[2], a[3]));
        }
    }

    private static void rigsWithinTheRanges() {
        Replay x = Scenes.oneHanging();
        Replay full = Scenes.full();
        Checks.sentence("Promise 2: Throws IllegalArgumentException if middle is not 0 to 99");
        rigsAtEachBound(x, 0, 99, 0, full);
        Checks.sentence("Promise 2: Throws IllegalArgumentException if .. width is not 1 to 20");
        rigsAtEachBound(x, 1, 20, 1, full);
        Checks.sentence("Promise 2: Throws IllegalArgumentException if .. weight is not 0 to 10");
        rigsAtEachBound(x, 0, 10, 2, full);
        Checks.sentence("Promise 2: Throws IllegalArgumentException if .. strength is not 1 to 99");
        rigsAtEachBound(x, 1, 99, 3, full);
    }

    private static void rigsSix() {
        Checks.sentence("Promise 2: Throws IllegalStateException if there are 6");
        Replay x = new Replay();
        for (int number = 0; number < 6; number++) {
            Checks.refuses("a wrong rig takes no number", Scenes.BAD_ARGUMENT, x, c -> c.rig(100, 1, 0, 1));
            Checks.due("rig", x.rig(40, 5, 1, 1), number);
        }
        Checks.refuses("a 7th", Scenes.BAD_STATE, x, c -> c.rig(40, 5, 1, 1));
        Replay broken = new Replay();
        for (int number = 0; number < 6; number++) {
            broken.rig(40, 5, 1, 1);
        }
        broken.mount(broken.join(), 5);
        broken.mount(broken.join(), 5);
        broken.go(1);
        Checks.due("one is broken", broken.count(2), 5);
        Checks.refuses("a 7th, with a broken one", Scenes.BAD_STATE, broken, c -> c.rig(40, 5, 1, 1));
    }

    private static void weighsWhatThereIs() {
        Checks.sentence("Promise 3: Throws IndexOutOfBoundsException if there is no such trapeze");
        Replay x = new Replay();
        for (int many = 0; many <= 6; many++) {
            for (int number : Scenes.outside(0, many - 1)) {
                Checks.refuses("weigh", Scenes.BAD_INDEX, x, c -> c.weigh(number, 5));
                Checks.refuses("weigh by 11", Scenes.BAD_INDEX, x, c -> c.weigh(number, 11));
            }
            for (int number = 0; number < many; number++) {
                Checks.due("weigh", x.fresh().weigh(number, 5), number);
            }
            if (many < 6) {
                x.rig(50, 10, many, 5);
            }
        }
    }

    private static void weighsWithinTheRange() {
        Checks.sentence("Promise 3: Throws IllegalArgumentException if weight is not 0 to 10");
        Replay x = Scenes.oneHanging();
        for (int weight : Scenes.outside(0, 10)) {
            Checks.refuses("weigh by " + weight, Scenes.BAD_ARGUMENT, x, c -> c.weigh(0, weight));
        }
        int before = 2;
        for (int weight : new int[] {0, 1, 9, 10, 10, 0}) {
            Checks.due("weigh by " + weight, x.weigh(0, weight), before);
            Checks.due("trapeze(0, 2)", x.trapeze(0, 2), weight);
            before = weight;
        }
    }

    private static void weighsNoBrokenOne() {
        Checks.sentence("Promise 3: Throws IllegalStateException if it is broken");
        Replay x = Scenes.busy();
        for (int weight = 0; weight <= 10; weight++) {
            int by = weight;
            Checks.refuses("weigh of a broken one", Scenes.BAD_STATE, x, c -> c.weigh(1, by));
        }
        for (int weight : Scenes.outside(0, 10)) {
            Checks.refuses("weigh of a broken one by " + weight, Scenes.BAD_ARGUMENT, x, c -> c.weigh(1, weight));
        }
        Checks.due("weigh of a whole one", x.weigh(0, 3), 2);
        x.mend(1);
        Checks.due("weigh of a mended one", x.weigh(1, 3), 0);
    }

    private static void weighsToTheLeftEnd() {
        Checks.sentence("Promise 3: its counterweight from now on; it is at its left end now");
        Replay x = Scenes.oneHanging();
        x.go(3);
        Checks.due("trapeze(0, 6)", x.trapeze(0, 6), 55);
        Checks.due("the same counterweight", x.weigh(0, 2), 2);
        Checks.dueTrapeze(x, 0, 50, 10, 2, 5, 1, 1, 40, 1);
        Checks.duePlaces(x, 0, 40, 45, 50, 55, 60, 55, 50, 45, 40);
        x.go(1);
        Checks.due("worn in the beat in which it was set", x.trapeze(0, 4), 2);
        x.weigh(0, 0);
        x.weigh(0, 1);
        Checks.duePlaces(x, 0, 40, 46, 53, 60, 54, 47, 40);
        x.go(1);
        Checks.due("worn once, if it is set twice in a beat", x.trapeze(0, 4), 3);
        x.go(5);
        Checks.due("worn before the next left end", x.trapeze(0, 4), 3);
        x.go(1);
        Checks.due("worn in the next left end", x.trapeze(0, 4), 4);
    }

    private static void mendsWhatThereIs() {
        Checks.sentence("Promise 4: Throws IndexOutOfBoundsException if there is no such trapeze");
        Replay x = new Replay();
        for (int many = 0; many <= 6; many++) {
            for (int number : Scenes.outside(0, many - 1)) {
                Checks.refuses("mend", Scenes.BAD_INDEX, x, c -> c.mend(number));
            }
            for (int number = 0; number < many; number++) {
                Checks.due("mend", x.fresh().mend(number), 0);
            }
            if (many < 6) {
                x.rig(50, 10, many, 5);
            }
        }
    }

    private static void mendsWithANewRope() {
        Checks.sentence("Promise 4: Mends a trapeze with a new rope of the same strength: it is whole then");
        Replay x = Scenes.busy();
        Checks.dueTrapeze(x, 1, 10, 5, 0, 1, 2, 0, 10, 0);
        Checks.due("mend of a broken one", x.mend(1), 2);
        Checks.dueTrapeze(x, 1, 10, 5, 0, 1, 0, 1, 10, 0);
        Checks.due("count(2)", x.count(2), 3);
        x.mount(4, 1);
        x.go(2);
        Checks.dueTrapeze(x, 1, 10, 5, 0, 1, 1, 1, 10, 1);
        Checks.due("mend of a worn one", x.mend(1), 1);
        Checks.dueTrapeze(x, 1, 10, 5, 0, 1, 0, 1, 10, 1);
        x.go(4);
        Checks.due("the new rope holds as long", x.trapeze(1, 5), 1);
        x.go(4);
        Checks.due("and no longer", x.trapeze(1, 5), 0);
    }

    private static void mendTellsTheWear() {
        Checks.sentence("Promise 4: Returns by how much its rope was worn");
        Replay x = new Replay();
        x.rig(10, 5, 0, 3);
        Checks.due("mend of a new one", x.mend(0), 0);
        x.join();
        x.mount(0, 0);
        x.spread(5, 5);
        Checks.due("mend before a left end", x.mend(0), 0);
        x.go(9);
        Checks.due("mend of a worn one", x.mend(0), 3);
        Checks.due("mend of a new rope", x.mend(0), 0);
        x.go(16);
        Checks.due("broken", x.trapeze(0, 5), 0);
        Checks.due("mend of a broken one", x.mend(0), 4);
        Checks.due("mend of a mended one", x.mend(0), 0);
    }

    private static void spreadsWithinTheRange() {
        Checks.sentence("Promise 5: Throws IllegalArgumentException if from or to is not -50 to 150");
        Replay x = Scenes.oneHanging();
        Replay full = Scenes.full();
        int[][] wrong = {{-51, -50}, {-51, 150}, {-50, 151}, {150, 151}, {-51, 151}, {-51, -51}, {151, 151},
            {Scenes.LOWEST, 0}, {0, Scenes.HIGHEST}, {Scenes.LOWEST, Scenes.HIGHEST}, {Scenes.LOWEST, Scenes.LOWEST},
            {Scenes.HIGHEST, Scenes.HIGHEST}};
        for (int[] w : wrong) {
            Checks.refuses("spread", Scenes.BAD_ARGUMENT, x, c -> c.spread(w[0], w[1]));
            Checks.refuses("a 4th spread", Scenes.BAD_ARGUMENT, full, c -> c.spread(w[0], w[1]));
        }
        int[][] right = {{-50, -50}, {-50, -49}, {-50, 150}, {149, 150}, {150, 150}};
        for (int[] r : right) {
            Replay y = new Replay();
            Checks.due("spread", y.spread(r[0], r[1]), 1);
            Checks.due("netAt(from)", y.netAt(r[0]), true);
            Checks.due("netAt(to)", y.netAt(r[1]), true);
            Checks.refuses("a 4th spread", Scenes.BAD_STATE, full, c -> c.spread(r[0], r[1]));
        }
    }

    private static void spreadsFromTheLesser() {
        Checks.sentence("Promise 5: Throws IllegalArgumentException if .. from is greater than to");
        Replay x = Scenes.oneHanging();
        Replay full = Scenes.full();
        int[][] wrong = {{1, 0}, {150, 149}, {-49, -50}, {150, -50}, {Scenes.HIGHEST, Scenes.LOWEST}};
        for (int[] w : wrong) {
            Checks.refuses("spread", Scenes.BAD_ARGUMENT, x, c -> c.spread(w[0], w[1]));
            Checks.refuses("a 4th spread", Scenes.BAD_ARGUMENT, full, c -> c.spread(w[0], w[1]));
        }
        Checks.due("spread(0, 0)", x.spread(0, 0), 1);
        Checks.due("spread(0, 1)", x.spread(0, 1), 2);
    }

    private static void spreadsThree() {
        Checks.sentence("Promise 5: Returns how many nets there are then. Throws IllegalStateException if there are 3");
        Replay x = new Replay();
        Checks.due("the first", x.spread(5, 5), 1);
        Checks.refuses("a wrong one is none", Scenes.BAD_ARGUMENT, x, c -> c.spread(6, 5));
        Checks.due("the second, at the same place", x.spread(5, 5), 2);
        Checks.due("the third", x.spread(7, 9), 3);
        Checks.refuses("a 4th", Scenes.BAD_STATE, x, c -> c.spread(6, 6));
        Checks.due("netAt(6)", x.netAt(6), false);
    }

    public static void main(String[] args) {
        newWithoutAny();
        eachNewOneIsItsOwn();
        rigsWithinTheRanges();
        rigsSix();
        weighsWhatThereIs();
        weighsWithinTheRange();
        weighsNoBrokenOne();
        weighsToTheLeftEnd();
        mendsWhatThereIs();
        mendsWithANewRope();
        mendTellsTheWear();
        spreadsWithinTheRange();
        spreadsFromTheLesser();
        spreadsThree();
        Checks.end();
    }
}

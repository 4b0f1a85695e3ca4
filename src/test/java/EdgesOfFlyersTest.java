/** The edges that promises 6 to 8 name, each with the sentence that it would see broken. */
public final class EdgesOfFlyersTest {
    private static final int ONCE = 5;

    private static void joinsEight() {
        Checks.sentence("Promise 6: Throws IllegalStateException if there are 8");
        Replay x = new Replay();
        for (int number = 0; number < 8; number++) {
            Checks.due("join()", x.join(), number);
            Checks.due("count(3)", x.count(3), number + 1);
        }
        Checks.refuses("a 9th join", Scenes.BAD_STATE, x, CircusLines::join);
        Replay busy = Scenes.busy();
        Checks.due("join() in the midst", busy.join(), 7);
        Checks.dueFlyer(busy, 7, 0, -1, 0, -1, 0);
        Checks.refuses("a 9th join, with one who is hurt", Scenes.BAD_STATE, busy, CircusLines::join);
    }

    private static void mountsWhoAndWhatThereIs() {
        Checks.sentence("Promise 7: Throws IndexOutOfBoundsException if there is no such flyer, or trapeze");
        Replay x = Scenes.busy();
        for (int flyer = 0; flyer < 7; flyer++) {
            int known = flyer;
            for (int number : Scenes.outside(0, 2)) {
                // Flyers 0 to 3 and 5 could mount nowhere: that comes second.
                Checks.refuses("mount on no trapeze", Scenes.BAD_INDEX, x, c -> c.mount(known, number));
            }
        }
        for (int trapeze = 0; trapeze < 3; trapeze++) {
            int known = trapeze;
            for (int number : Scenes.outside(0, 6)) {
                // Trapeze 1 is broken, 2 is full: that comes second.
                Checks.refuses("mount of no flyer", Scenes.BAD_INDEX, x, c -> c.mount(number, known));
            }
        }
        for (int number : Scenes.outside(0, 6)) {
            Checks.refuses("mount of no flyer on no trapeze", Scenes.BAD_INDEX, x, c -> c.mount(number, number));
        }
        Replay full = Scenes.full();
        for (int number : Scenes.outside(0, 7)) {
            Checks.refuses("mount of no flyer", Scenes.BAD_INDEX, full, c -> c.mount(number, 5));
        }
        for (int number : Scenes.outside(0, 5)) {
            Checks.refuses("mount on no trapeze", Scenes.BAD_INDEX, full, c -> c.mount(0, number));
        }
    }

    private static void mountsTheLastOnes() {
        Checks.sentence("Promise 7: Has a flyer .. hang from a trapeze: the first and the last of both");
        Replay x = new Replay();
        for (int i = 0; i < 6; i++) {
            x.rig(10 * i, 5, 2, 9);
        }
        Scenes.joinMany(x, 8);
        Checks.due("mount(7, 5)", x.mount(7, 5), 1);
        Checks.due("mount(0, 0)", x.mount(0, 0), 1);
        Checks.due("mount(6, 0)", x.mount(6, 0), 2);
        Checks.due("mount(1, 5)", x.mount(1, 5), 2);
        Checks.dueFlyer(x, 7, 1, 5, 0, -1, 0);
        Checks.dueFlyer(x, 0, 1, 0, 0, -1, 0);
        Checks.due("count(4)", x.count(4), 4);
    }

    private static void mountsWhoCan() {
        Checks.sentence("Promise 7: Throws IllegalStateException if this one hangs, flies or is hurt");
        boolean[] can = {false, false, false, false, true, false, true};
        for (int flyer = 0; flyer < can.length; flyer++) {
            int who = flyer;
            Replay x = Scenes.busy();
            if (can[flyer]) {
                Checks.due("mount(" + flyer + ", 0)", x.mount(flyer, 0), 2);
                Checks.dueFlyer(x, flyer, 1, 0, 0, -1, 0);
            } else {
                Checks.refuses("mount(" + flyer + ", 0)", Scenes.BAD_STATE, x, c -> c.mount(who, 0));
            }
        }
        Replay y = Scenes.busy();
        y.rig(50, 10, 2, 9);
        Checks.refuses("mount from one to another", Scenes.BAD_STATE, y, c -> c.mount(0, 3));
    }

    private static void mountsNoBrokenOne() {
        Checks.sentence("Promise 7: Throws IllegalStateException if .. the trapeze is broken");
        Replay x = Scenes.busy();
        for (int flyer = 0; flyer < 7; flyer++) {
            int who = flyer;
            Checks.refuses("mount(" + flyer + ", 1)", Scenes.BAD_STATE, x, c -> c.mount(who, 1));
        }
        x.mend(1);
        Checks.due("mount on a mended one", x.mount(4, 1), 1);
    }

    private static void mountsWhereThereIsRoom() {
        Checks.sentence("Promise 7: Throws IllegalStateException if .. two hang from it");
        Replay x = Scenes.busy();
        Checks.refuses("mount(4, 2)", Scenes.BAD_STATE, x, c -> c.mount(4, 2));
        Checks.refuses("mount(6, 2)", Scenes.BAD_STATE, x, c -> c.mount(6, 2));
        Checks.due("mount beside one", x.mount(6, 0), 2);
        Checks.refuses("mount(4, 0)", Scenes.BAD_STATE, x, c -> c.mount(4, 0));
        x.go(1);
        // Cue 3 has taken flyer 1 off trapeze 2.
        Checks.due("mount where one let go", x.mount(4, 2), 2);
    }

    private static void mountsFromANet() {
        Checks.sentence("Promise 7: Has a flyer, who stands aside or is in a net, hang: how often this one was caught stays");
        Replay x = Scenes.oneHanging();
        x.spread(-50, 150);
        x.cue(0, 0, 20, 4);
        x.cue(5, 0, 20, 1);
        x.go(7);
        Checks.dueFlyer(x, 0, 3, -1, 0, -1, 1);
        Checks.due("mount(0, 0)", x.mount(0, 0), 1);
        Checks.dueFlyer(x, 0, 1, 0, 0, -1, 1);
    }

    private static void cuesWhoThereIs() {
        Checks.sentence("Promise 8: Throws IndexOutOfBoundsException if there is no such flyer");
        Replay x = new Replay();
        x.go(5);
        int[][] others = {{5, 0, 1}, {5, 21, 1}, {5, -21, 1}, {5, 0, 0}, {5, 0, 7}, {10000, 0, 1}, {4, 0, 1}, {-1, 0, 1}};
        for (int many = 0; many <= 8; many++) {
            for (int number : Scenes.outside(0, many - 1)) {
                for (int[] o : others) {
                    Checks.refuses("cue", Scenes.BAD_INDEX, x, c -> c.cue(o[0], number, o[1], o[2]));
                }
            }
            for (int number = 0; number < many; number++) {
                Checks.due("cue", x.fresh().cue(5, number, 0, 1), 0);
            }
            if (many < 8) {
                x.join();
            }
        }
        Replay full = Scenes.full();
        for (int number : Scenes.outside(0, 7)) {
            for (int[] o : others) {
                Checks.refuses("a 21st cue", Scenes.BAD_INDEX, full, c -> c.cue(o[0], number, o[1], o[2]));
            }
        }
    }

    /** In beat 5, with so many cues: one that is refused by its reach, time or beat, whatever else holds. */
    private static void refusesTheCue(int beat, int reach, int time) {
        for (int cues : new int[] {0, 19, 20}) {
            Replay x = new Replay();
            x.join();
            x.go(ONCE);
            for (int i = 0; i < cues; i++) {
                x.cue(100 + i, 0, 0, 1);
            }
            Checks.refuses("cue " + beat + ", " + reach + ", " + time, Scenes.BAD_ARGUMENT, x, c -> c.cue(beat, 0, reach, time));
        }
    }

    /** Of a beat that is now, has gone by, and is less than 0. */
    private static void refusesReachAndTime(int reach, int time) {
        for (int beat : new int[] {ONCE, ONCE - 1, -1, Scenes.LOWEST}) {
            refusesTheCue(beat, reach, time);
        }
    }

    private static void cuesWithAReach() {
        Checks.sentence("Promise 8: Throws IllegalArgumentException if reach is not -20 to 20");
        for (int reach : Scenes.outside(-20, 20)) {
            refusesReachAndTime(reach, 1);
        }
        for (int reach : new int[] {-20, -19, 0, 19, 20}) {
            Replay x = Scenes.oneHanging();
            Checks.due("cue", x.cue(0, 0, reach, 1), 0);
            Checks.dueCalled(x, 0, 0, 0, reach, 1, 0);
        }
    }

    private static void cuesWithATime() {
        Checks.sentence("Promise 8: Throws IllegalArgumentException if .. time is not 1 to 6");
        for (int time : Scenes.outside(1, 6)) {
            refusesReachAndTime(0, time);
        }
        for (int time = 1; time <= 6; time++) {
            Replay x = Scenes.oneHanging();
            Checks.due("cue", x.cue(0, 0, 0, time), 0);
            Checks.dueCalled(x, 0, 0, 0, 0, time, 0);
        }
    }

    private static void cuesUpTo9999() {
        Checks.sentence("Promise 8: Throws IllegalArgumentException if .. beat is greater than 9999");
        for (int beat : new int[] {10000, 10001, Scenes.HIGHEST}) {
            refusesTheCue(beat, 0, 1);
            refusesTheCue(beat, 21, 7);
        }
        Replay x = Scenes.oneHanging();
        Checks.due("cue of 9998", x.cue(9998, 0, 0, 1), 0);
        Checks.due("cue of 9999", x.cue(9999, 0, 0, 1), 1);
        Checks.dueCalled(x, 1, 9999, 0, 0, 1, 0);
    }

    private static void cuesAfter9999() {
        Checks.sentence("Promise 8: beat is greater than 9999, when more beats have gone by");
        Replay x = new Replay();
        x.join();
        x.cue(9999, 0, 0, 1);
        for (int i = 0; i < 49; i++) {
            x.go(200);
        }
        x.go(199);
        Checks.due("count(0)", x.count(0), 9999);
        Checks.due("the cue of 9999 is open", x.called(0, 4), 0);
        Checks.due("cue of 9999 in 9999", x.cue(9999, 0, 0, 1), 1);
        Checks.refuses("cue of 9998 in 9999", Scenes.BAD_STATE, x, c -> c.cue(9998, 0, 0, 1));
        Checks.refuses("cue of 10000 in 9999", Scenes.BAD_ARGUMENT, x, c -> c.cue(10000, 0, 0, 1));
        x.go(1);
        Checks.due("the cue of 9999 is missed", x.called(0, 4), 2);
        Checks.refuses("cue of 9999 in 10000", Scenes.BAD_STATE, x, c -> c.cue(9999, 0, 0, 1));
        Checks.refuses("cue of 10000 in 10000", Scenes.BAD_ARGUMENT, x, c -> c.cue(10000, 0, 0, 1));
        x.go(1);
        Checks.refuses("cue of 10000 in 10001", Scenes.BAD_ARGUMENT, x, c -> c.cue(10000, 0, 0, 1));
        Checks.refuses("cue of 10001 in 10001", Scenes.BAD_ARGUMENT, x, c -> c.cue(10001, 0, 0, 1));
    }

    private static void cuesFromTheBeatNow() {
        Checks.sentence("Promise 8: Throws IllegalStateException if beat is less than the one that is now (also less than 0)");
        for (int now : new int[] {0, 1, 5, 200}) {
            Replay x = new Replay();
            x.rig(50, 10, 2, 99);
            x.join();
            x.mount(0, 0);
            if (now > 0) {
                x.go(now);
            }
            for (int beat : new int[] {now - 1, -1, Scenes.LOWEST}) {
                Checks.refuses("cue of " + beat + " in " + now, Scenes.BAD_STATE, x, c -> c.cue(beat, 0, 0, 1));
            }
            Checks.due("cue of " + (now + 1) + " in " + now, x.cue(now + 1, 0, 0, 1), 0);
            Checks.due("cue of " + now + " in " + now, x.cue(now, 0, 0, 1), 1);
            x.go(1);
            Checks.due("the cue of the beat is done", x.called(1, 4), 1);
            Checks.due("the cue of the next beat is open", x.called(0, 4), 0);
        }
    }

    private static void cuesTwenty() {
        Checks.sentence("Promise 8: Throws IllegalStateException if .. there are 20");
        Replay x = Scenes.oneHanging();
        for (int number = 0; number < 20; number++) {
            Checks.refuses("a wrong one is none", Scenes.BAD_STATE, x, c -> c.cue(-1, 0, 0, 1));
            Checks.due("cue", x.cue(number / 4, 0, 0, 1), number);
            Checks.due("count(8)", x.count(8), number + 1);
        }
        Checks.refuses("a 21st", Scenes.BAD_STATE, x, c -> c.cue(0, 0, 0, 1));
        x.go(10);
        Checks.due("count(8)", x.count(8), 0);
        Checks.refuses("a 21st when all are done or missed", Scenes.BAD_STATE, x, c -> c.cue(10, 0, 0, 1));
    }

    public static void main(String[] args) {
        joinsEight();
        mountsWhoAndWhatThereIs();
        mountsTheLastOnes();
        mountsWhoCan();
        mountsNoBrokenOne();
        mountsWhereThereIsRoom();
        mountsFromANet();
        cuesWhoThereIs();
        cuesWithAReach();
        cuesWithATime();
        cuesUpTo9999();
        cuesAfter9999();
        cuesFromTheBeatNow();
        cuesTwenty();
        Checks.end();
    }
}

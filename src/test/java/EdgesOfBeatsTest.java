import java.math.BigInteger;

/** The edges that promises 15 to 21 name, each with the sentence that it would see broken. */
public final class EdgesOfBeatsTest {
    /** A trapeze that stays at the place in the first six beats: by h = 12 and a width of 1 the cut leaves it there. */
    private static int rigStill(Replay x, int place) {
        return x.rig(place + 1, 1, 10, 99);
    }

    private static void breakWithTwo(Replay x, int trapeze) {
        x.mount(x.join(), trapeze);
        x.mount(x.join(), trapeze);
        x.go(24);
        Checks.due("it is broken", x.trapeze(trapeze, 5), 0);
    }

    // ---- promise 15

    private static void goes1To200() {
        Checks.sentence("Promise 15: Throws IllegalArgumentException if beats is not 1 to 200");
        Replay[] all = {new Replay(), Scenes.busy(), Scenes.full()};
        for (Replay x : all) {
            for (int beats : new int[] {0, -1, 201, 202, Scenes.LOWEST, Scenes.HIGHEST}) {
                Checks.refuses("go(" + beats + ")", Scenes.BAD_ARGUMENT, x, c -> c.go(beats));
            }
            for (int beats : new int[] {1, 2, 199, 200}) {
                CircusLines gone = x.fresh();
                gone.go(beats);
                Checks.due("count(0) behind go(" + beats + ")", gone.count(0), x.count(0) + beats);
            }
        }
        Replay x = Scenes.oneHanging();
        x.cue(199, 0, 0, 1);
        x.cue(200, 0, 0, 1);
        x.go(200);
        Checks.due("the cue of beat 199 was called", x.called(0, 4) != 0, true);
        Checks.due("the cue of beat 200 is open", x.called(1, 4), 0);
    }

    /** Lets flyer 0 go in each second beat, and has the trapeze at 50 catch each time, a beat later. */
    private static Replay caughtTenTimes() {
        Replay x = new Replay();
        x.rig(51, 1, 10, 99);
        x.join();
        x.mount(0, 0);
        for (int i = 0; i < 10; i++) {
            x.cue(2 * i, 0, 0, 1);
        }
        return x;
    }

    private static void goTellsTheCatches() {
        Checks.sentence("Promise 15: Returns how often flyers are caught in them");
        for (int beats = 1; beats <= 30; beats++) {
            Replay x = caughtTenTimes();
            Checks.due("go(" + beats + ")", x.go(beats), Math.min(beats / 2, 10));
            Checks.due("go(1) behind it", x.go(1), beats % 2 == 1 && beats < 20 ? 1 : 0);
        }
        Replay all = new Replay();
        for (int i = 0; i < 4; i++) {
            rigStill(all, 50);
        }
        for (int i = 0; i < 8; i++) {
            all.mount(all.join(), i / 2);
            all.cue(0, i, 0, 2);
        }
        Checks.due("go(2) before all come", all.go(2), 0);
        Checks.due("go(1) when all come", all.go(1), 8);
        Checks.due("go(200) when all have come", all.go(200), 0);
    }

    private static void goesInPartsAsInOne() {
        Checks.sentence("Promise 15: Lets beats go by: so many, in one call or in more");
        Replay[] all = {Scenes.oneHanging(), Scenes.busy(), Scenes.full(), caughtTenTimes()};
        for (Replay x : all) {
            for (int beats : new int[] {2, 7, 13, 200}) {
                CircusLines one = x.fresh();
                CircusLines parts = x.fresh();
                int caught = 0;
                for (int i = 0; i < beats; i++) {
                    caught += parts.go(1);
                }
                Checks.due("go(" + beats + ")", one.go(beats), caught);
                Checks.due("digest() behind " + beats + " beats", one.digest(), parts.digest());
            }
        }
    }

    // ---- promise 16

    private static void meetsOnesThatThereAre() {
        Checks.sentence("Promise 16: Throws IndexOutOfBoundsException if there is no such trapeze");
        Replay x = new Replay();
        for (int many = 0; many <= 6; many++) {
            for (int number : Scenes.outside(0, many - 1)) {
                for (int known = 0; known < many; known++) {
                    int other = known;
                    Checks.refuses("meets", Scenes.BAD_INDEX, x, c -> c.meets(number, other));
                    Checks.refuses("meets", Scenes.BAD_INDEX, x, c -> c.meets(other, number));
                }
                Checks.refuses("meets", Scenes.BAD_INDEX, x, c -> c.meets(number, number));
            }
            for (int number = 0; number < many; number++) {
                Checks.due("meets", x.meets(number, many - 1), 0);
                Checks.due("meets", x.meets(many - 1, number), 0);
            }
            if (many < 6) {
                x.rig(50, 10, 2, 5);
            }
        }
        Replay broken = Scenes.busy();
        for (int number : Scenes.outside(0, 2)) {
            Checks.refuses("meets with a broken one", Scenes.BAD_INDEX, broken, c -> c.meets(1, number));
            Checks.refuses("meets with a broken one", Scenes.BAD_INDEX, broken, c -> c.meets(number, 1));
        }
    }

    private static void meetsByAtMost2() {
        Checks.sentence("Promise 16: Returns behind how many beats their places differ by at most 2: 0 if they do now");
        for (int off = -4; off <= 4; off++) {
            Replay x = new Replay();
            x.rig(50, 10, 2, 5);
            x.rig(50 + off, 10, 2, 5);
            int due = off >= -2 && off <= 2 ? 0 : -1;
            Checks.duePure("meets(0, 1), off by " + off, x, c -> c.meets(0, 1), due);
            Checks.duePure("meets(1, 0), off by " + off, x, c -> c.meets(1, 0), due);
        }
        Replay y = new Replay();
        y.rig(50, 10, 2, 5);
        y.rig(53, 10, 3, 5);
        // At 40 and 43 now, at 45 and 47 a beat later.
        Checks.duePure("meets(0, 1)", y, c -> c.meets(0, 1), 1);
        y.go(1);
        Checks.duePure("meets(0, 1) a beat later", y, c -> c.meets(0, 1), 0);
        Checks.duePure("meets(1, 0) a beat later", y, c -> c.meets(1, 0), 0);
    }

    private static void meetsInAtMost200() {
        Checks.sentence("Promise 16: for the first time: .. at most 200; -1 if not by then");
        // At most 50 and at least 52: near in beats that are 11 more than 22s and 1 more than 24s, so 121 and 385.
        Replay x = new Replay();
        x.rig(30, 20, 9, 5);
        x.go(1);
        x.rig(70, 18, 10, 5);
        Checks.due("meets(0, 1) in beat 1", x.meets(0, 1), 120);
        x.go(120);
        Checks.due("meets(0, 1) in beat 121", x.meets(0, 1), 0);
        x.go(1);
        Checks.due("meets(0, 1) in beat 122", x.meets(0, 1), -1);
        x.go(62);
        Checks.due("meets(0, 1) in beat 184", x.meets(0, 1), -1);
        x.go(1);
        Checks.due("meets(0, 1) in beat 185", x.meets(0, 1), 200);
        Checks.due("meets(1, 0) in beat 185", x.meets(1, 0), 200);
        x.go(1);
        Checks.due("meets(0, 1) in beat 186", x.meets(0, 1), 199);
        Replay never = new Replay();
        never.rig(20, 10, 2, 5);
        never.rig(80, 10, 3, 5);
        Checks.duePure("meets(0, 1) of two far apart", never, c -> c.meets(0, 1), -1);
    }

    private static void meetsNoBrokenOne() {
        Checks.sentence("Promise 16: -1 if not by then (also if one is broken)");
        Replay x = new Replay();
        x.rig(50, 10, 2, 1);
        x.rig(50, 10, 2, 5);
        x.rig(50, 10, 2, 5);
        breakWithTwo(x, 0);
        Checks.duePure("meets(0, 1)", x, c -> c.meets(0, 1), -1);
        Checks.duePure("meets(1, 0)", x, c -> c.meets(1, 0), -1);
        Checks.duePure("meets(0, 0)", x, c -> c.meets(0, 0), -1);
        Checks.duePure("meets(1, 2)", x, c -> c.meets(1, 2), 0);
        Checks.duePure("meets(1, 1)", x, c -> c.meets(1, 1), 0);
        x.mend(0);
        Checks.duePure("meets(0, 1) when mended", x, c -> c.meets(0, 1), 0);
    }

    // ---- promise 17

    private static void fliesWithOnesThatThereAre() {
        Checks.sentence("Promise 17: Throws IndexOutOfBoundsException if there is no such flyer, or trapeze");
        Replay[] all = {Scenes.busy(), Scenes.full()};
        int[] flyers = {7, 8};
        int[] trapezes = {3, 6};
        for (int i = 0; i < all.length; i++) {
            Replay x = all[i];
            for (int number : Scenes.outside(0, flyers[i] - 1)) {
                for (int trapeze = 0; trapeze < trapezes[i]; trapeze++) {
                    int known = trapeze;
                    Checks.refuses("flight of none", Scenes.BAD_INDEX, x, c -> c.flight(number, known));
                }
                Checks.refuses("flight of none to none", Scenes.BAD_INDEX, x, c -> c.flight(number, -1));
            }
            for (int number : Scenes.outside(0, trapezes[i] - 1)) {
                for (int flyer = 0; flyer < flyers[i]; flyer++) {
                    int known = flyer;
                    Checks.refuses("flight to none", Scenes.BAD_INDEX, x, c -> c.flight(known, number));
                }
            }
        }
        Replay noTrapeze = new Replay();
        noTrapeze.join();
        Checks.refuses("flight without a trapeze", Scenes.BAD_INDEX, noTrapeze, c -> c.flight(0, 0));
        Replay noFlyer = new Replay();
        noFlyer.rig(50, 10, 2, 5);
        Checks.refuses("flight without a flyer", Scenes.BAD_INDEX, noFlyer, c -> c.flight(0, 0));
    }

    private static void fliesWhoHangs() {
        Checks.sentence("Promise 17: -1 if .. the flyer does not hang");
        Replay x = Scenes.busy();
        // From 55 to one that is at 60 in a beat: the least reach is 3.
        Checks.duePure("flight(0, 0)", x, c -> c.flight(0, 0), 123);
        for (int flyer = 3; flyer <= 6; flyer++) {
            int who = flyer;
            for (int trapeze = 0; trapeze < 3; trapeze++) {
                int to = trapeze;
                Checks.duePure("flight of one who does not hang", x, c -> c.flight(who, to), -1);
            }
        }
    }

    /** From one that stays at 40 to one that is at the place for five beats, and 1 further right in the sixth. */
    private static Replay from40To(int place) {
        Replay x = new Replay();
        rigStill(x, 40);
        rigStill(x, place);
        x.join();
        x.mount(0, 0);
        return x;
    }

    private static void fliesByTheLeastReach() {
        Checks.sentence("Promise 17: a flight .. that ends at a place that differs by at most 2: the least of these numbers");
        int[] places = {22, 23, 39, 40, 41, 61, 62};
        int[] due = {100, 101, 117, 118, 119, 139, 140};
        for (int i = 0; i < places.length; i++) {
            Checks.duePure("to " + places[i], from40To(places[i]), c -> c.flight(0, 1), due[i]);
        }
        for (int place = 18; place <= 22; place++) {
            Checks.duePure("to " + place, from40To(place), c -> c.flight(0, 1), 100);
        }
    }

    private static void fliesByTheFarthestReach() {
        Checks.sentence("Promise 17: By a reach, -20 to 20: one beyond leads to none");
        Checks.duePure("to 62", from40To(62), c -> c.flight(0, 1), 140);
        Checks.duePure("to 63", from40To(63), c -> c.flight(0, 1), -1);
        Checks.duePure("to 18", from40To(18), c -> c.flight(0, 1), 100);
        // To 17 for five beats, and to 18 in the sixth.
        Checks.duePure("to 17", from40To(17), c -> c.flight(0, 1), 600);
        Checks.duePure("to 16", from40To(16), c -> c.flight(0, 1), -1);
    }

    private static void fliesInAtMost6Beats() {
        Checks.sentence("Promise 17: a time, 1 to 6 beats: neither now nor in the seventh");
        for (int later = 1; later <= 7; later++) {
            // Trapeze 0 is at 17 in the first six beats of its swing, then at 18: so many beats from now.
            Replay x = new Replay();
            x.go(10);
            x.rig(18, 1, 10, 9);
            x.go(30 - later);
            rigStill(x, 40);
            x.join();
            x.mount(0, 1);
            int due = later <= 6 ? 100 * later : -1;
            Checks.duePure("in " + later + " beats", x, c -> c.flight(0, 0), due);
        }
        // At 62 now, then at 64, 66, 64 and 62 again: near now, but by no flight before the fourth beat.
        Replay now = new Replay();
        now.rig(64, 2, 0, 9);
        rigStill(now, 40);
        now.join();
        now.mount(0, 1);
        Checks.duePure("to one that is near now", now, c -> c.flight(0, 0), 440);
    }

    private static void fliesToAnyTrapeze() {
        Checks.sentence("Promise 17: (whether this is broken or full, or not)");
        Replay x = from40To(50);
        Checks.duePure("to an empty one", x, c -> c.flight(0, 1), 128);
        x.mount(x.join(), 1);
        Checks.duePure("to one that one hangs from", x, c -> c.flight(0, 1), 128);
        x.mount(x.join(), 1);
        Checks.duePure("to a full one", x, c -> c.flight(0, 1), 128);
        Replay y = new Replay();
        rigStill(y, 40);
        y.rig(51, 1, 10, 1);
        Scenes.joinMany(y, 3);
        y.mount(0, 0);
        y.mount(1, 1);
        y.mount(2, 1);
        y.go(1);
        Checks.due("it is broken", y.trapeze(1, 5), 0);
        Checks.duePure("to a broken one", y, c -> c.flight(0, 1), 128);
        Replay own = from40To(50);
        Checks.duePure("to the one from which this one hangs", own, c -> c.flight(0, 0), 118);
    }

    private static void fliesAsTold() {
        Checks.sentence("Promise 17: Returns 100 * the time + the reach + 20: a flight that is taken so is caught");
        for (int beats = 1; beats <= 24; beats++) {
            Replay x = new Replay();
            x.rig(40, 10, 3, 99);
            x.rig(65, 12, 4, 99);
            x.join();
            x.mount(0, 0);
            x.go(beats);
            int flight = x.flight(0, 1);
            if (flight >= 0) {
                x.cue(beats, 0, flight % 100 - 20, flight / 100);
                Checks.due("go by the flight " + flight, x.go(flight / 100 + 1), 1);
            }
        }
    }

    // ---- promise 18

    private static void advisesOnOnesThatThereAre() {
        Checks.sentence("Promise 18: Throws IndexOutOfBoundsException if there is no such trapeze");
        Replay[] all = {Scenes.busy(), Scenes.full()};
        int[] trapezes = {3, 6};
        for (int i = 0; i < all.length; i++) {
            Replay x = all[i];
            for (int number : Scenes.outside(0, trapezes[i] - 1)) {
                for (int trapeze = 0; trapeze < trapezes[i]; trapeze++) {
                    int known = trapeze;
                    Checks.refuses("advise", Scenes.BAD_INDEX, x, c -> c.advise(number, known));
                    Checks.refuses("advise", Scenes.BAD_INDEX, x, c -> c.advise(known, number));
                }
                Checks.refuses("advise on none twice", Scenes.BAD_INDEX, x, c -> c.advise(number, number));
            }
        }
    }

    private static void advisesOnTwo() {
        Checks.sentence("Promise 18: Throws IllegalArgumentException if both are the same");
        Replay busy = Scenes.busy();
        Replay full = Scenes.full();
        for (int trapeze = 0; trapeze < 3; trapeze++) {
            int same = trapeze;
            Checks.refuses("advise", Scenes.BAD_ARGUMENT, busy, c -> c.advise(same, same));
        }
        for (int trapeze = 0; trapeze < 6; trapeze++) {
            int same = trapeze;
            Checks.refuses("advise", Scenes.BAD_ARGUMENT, full, c -> c.advise(same, same));
        }
    }

    private static void advisesTheLeastOfSeveral() {
        Checks.sentence("Promise 18: the counterweight with which .. soonest .. ; of several the least");
        Replay now = new Replay();
        now.rig(50, 10, 7, 5);
        now.rig(52, 10, 9, 5);
        Checks.duePure("by each at once", now, c -> c.advise(0, 1), 0);
        Checks.duePure("by each at once", now, c -> c.advise(1, 0), 0);
        // Trapeze 1 stays where trapeze 0 would be in a beat by the weight: at 30 + 40 / h.
        int[] steps = {20, 13, 10, 8, 6, 5, 5, 4, 4, 3, 3};
        for (int weight = 0; weight <= 10; weight++) {
            Replay x = new Replay();
            x.rig(50, 20, 6, 5);
            rigStill(x, 30 + steps[weight]);
            int least = weight;
            while (least > 0 && steps[least - 1] - steps[weight] <= 2) {
                least--;
            }
            int due = least;
            Checks.duePure("by the first step " + steps[weight], x, c -> c.advise(0, 1), due);
        }
    }

    private static void advisesTheHeaviest() {
        Checks.sentence("Promise 18: the counterweight with which, set now, the first one meets the other one soonest: 10 too");
        // Trapeze 1 is at 35 in beat 13; trapeze 0 is at 33 then by 10, as 6 * 1 / 12 is cut, and further left by each other.
        Replay x = new Replay();
        x.rig(30, 3, 0, 9);
        x.rig(39, 6, 5, 9);
        Checks.due("place(1, 13)", x.place(1, 13), 35);
        Checks.duePure("advise(0, 1)", x, c -> c.advise(0, 1), 10);
        x.weigh(0, 10);
        Checks.due("meets(0, 1)", x.meets(0, 1), 13);
    }

    /** Found by trying all: by 9 alone the first meets in 200 beats, by 10 alone the second would in 218. */
    private static void advisesIn200Beats() {
        Checks.sentence("Promise 18: as meets() has it: at most 200; -1 if it does by none");
        Replay x = new Replay();
        x.rig(5, 20, 8, 9);
        x.go(10);
        x.rig(40, 19, 0, 9);
        Checks.duePure("advise(1, 0)", x, c -> c.advise(1, 0), 9);
        x.weigh(1, 9);
        Checks.due("meets(1, 0)", x.meets(1, 0), 200);
        Replay y = new Replay();
        y.rig(4, 20, 9, 9);
        y.go(13);
        y.rig(40, 20, 0, 9);
        Checks.duePure("advise(1, 0)", y, c -> c.advise(1, 0), -1);
        Replay far = new Replay();
        far.rig(20, 10, 2, 5);
        far.rig(80, 10, 3, 5);
        Checks.duePure("advise(0, 1) of two far apart", far, c -> c.advise(0, 1), -1);
    }

    private static void advisesOnNoBrokenOne() {
        Checks.sentence("Promise 18: as meets() has it: -1 also if one is broken");
        Replay x = new Replay();
        x.rig(50, 10, 2, 1);
        x.rig(50, 10, 2, 5);
        Checks.duePure("advise(0, 1)", x, c -> c.advise(0, 1), 0);
        breakWithTwo(x, 0);
        Checks.duePure("advise(0, 1)", x, c -> c.advise(0, 1), -1);
        Checks.duePure("advise(1, 0)", x, c -> c.advise(1, 0), -1);
        x.mend(0);
        Checks.duePure("advise(0, 1) when mended", x, c -> c.advise(0, 1), 0);
    }

    // ---- promise 19

    private static void foresees1To200() {
        Checks.sentence("Promise 19: Throws IllegalArgumentException if beats is not 1 to 200");
        Replay[] all = {new Replay(), Scenes.busy(), Scenes.full()};
        for (Replay x : all) {
            for (int beats : Scenes.outside(1, 200)) {
                for (int what : new int[] {4, 8, 3, 9, Scenes.LOWEST, Scenes.HIGHEST}) {
                    Checks.refuses("foresee", Scenes.BAD_ARGUMENT, x, c -> c.foresee(beats, what));
                }
            }
        }
        Replay x = Scenes.oneHanging();
        x.cue(0, 0, 0, 1);
        x.cue(1, 0, 0, 1);
        x.cue(199, 0, 0, 1);
        x.cue(200, 0, 0, 1);
        int[] beats = {1, 2, 199, 200};
        int[] open = {3, 2, 2, 1};
        for (int i = 0; i < beats.length; i++) {
            int asked = beats[i];
            Checks.duePure("foresee(" + asked + ", 8)", x, c -> c.foresee(asked, 8), open[i]);
        }
    }

    private static void foresees4To8() {
        Checks.sentence("Promise 19: Throws IndexOutOfBoundsException if what is not 4 to 8");
        Replay[] all = {new Replay(), Scenes.busy(), Scenes.full()};
        for (Replay x : all) {
            for (int what : new int[] {3, 2, 1, 0, -1, 9, 10, Scenes.LOWEST, Scenes.HIGHEST}) {
                for (int beats : new int[] {1, 200}) {
                    Checks.refuses("foresee", Scenes.BAD_INDEX, x, c -> c.foresee(beats, what));
                }
            }
        }
    }

    private static void foreseesWhatWillBe() {
        Checks.sentence("Promise 19: Returns this, behind so many beats, if nothing is done (nothing is changed)");
        Replay[] all = {new Replay(), Scenes.oneHanging(), Scenes.busy(), Scenes.full(), caughtTenTimes()};
        for (Replay x : all) {
            for (int beats : new int[] {1, 2, 3, 5, 8, 40, 199, 200}) {
                CircusLines later = x.fresh();
                later.go(beats);
                for (int what = 4; what <= 8; what++) {
                    int asked = what;
                    Checks.duePure("foresee(" + beats + ", " + what + ")", x, c -> c.foresee(beats, asked), later.count(what));
                }
            }
        }
    }

    private static void foreseesInTheMidst() {
        Checks.sentence("Promise 19: (nothing is changed): of one who flies now, will be caught, and will fly elsewhere");
        Replay x = new Replay();
        x.rig(51, 1, 10, 99);
        x.spread(70, 70);
        Scenes.joinMany(x, 2);
        x.mount(0, 0);
        x.mount(1, 0);
        x.cue(0, 0, 0, 1);
        x.cue(2, 0, 2, 3);
        x.cue(6, 0, 20, 1);
        x.cue(3, 1, -2, 1);
        x.go(3);
        Checks.dueFlyer(x, 0, 2, -1, 52, 2, 1);
        int[][] due = {{1, 0, 2, 0, 0, 1}, {2, 1, 1, 0, 0, 1}, {3, 2, 0, 0, 0, 1}, {4, 1, 1, 0, 0, 0}, {5, 1, 0, 0, 1, 0},
            {200, 1, 0, 0, 1, 0}};
        for (int[] row : due) {
            for (int what = 4; what <= 8; what++) {
                int asked = what;
                Checks.duePure("foresee(" + row[0] + ", " + what + ")", x, c -> c.foresee(row[0], asked), row[what - 3]);
            }
        }
        Checks.due("go(3)", x.go(3), 2);
        Checks.dueFlyer(x, 0, 1, 0, 0, -1, 2);
        Checks.duePure("foresee(2, 7)", x, c -> c.foresee(2, 7), 1);
    }

    private static void foreseesTwiceTheSame() {
        Checks.sentence("Promise 19: (nothing is changed): of a rope that would break, and of all who would fall");
        CircusLines x = Scenes.full().fresh();
        long digest = x.digest();
        int first = x.foresee(200, 7);
        Checks.due("some would be hurt", first > 0, true);
        Checks.due("foresee(200, 7) again", x.foresee(200, 7), first);
        Checks.due("digest()", x.digest(), digest);
        Checks.dueDouble("mean()", x.mean(), 0.0);
        Checks.due("go(200)", x.go(200), Scenes.full().go(200));
        Checks.due("count(7)", x.count(7), first);
    }

    // ---- promises 20 and 21

    private static void meanOfNone() {
        Checks.sentence("Promise 20: 0 if there are none");
        Checks.dueDouble("mean() of a new one", new Replay().mean(), 0.0);
        Replay x = new Replay();
        x.rig(50, 10, 2, 5);
        x.go(9);
        Checks.dueDouble("mean() without flyers", x.mean(), 0.0);
        x.join();
        Checks.dueDouble("mean() without a catch", x.mean(), 0.0);
    }

    private static void meanOfAll() {
        Checks.sentence("Promise 20: Returns how often flyers were caught in all, divided by the flyers");
        Replay x = caughtTenTimes();
        x.go(14);
        for (int flyers = 1; flyers <= 8; flyers++) {
            Checks.dueDouble("mean() of " + flyers, x.mean(), 7.0 / flyers);
            if (flyers < 8) {
                x.join();
            }
        }
        x.go(6);
        Checks.dueDouble("mean()", x.mean(), 10.0 / 8.0);
        Replay two = new Replay();
        rigStill(two, 50);
        Scenes.joinMany(two, 3);
        two.mount(0, 0);
        two.mount(2, 0);
        two.cue(0, 0, 0, 1);
        two.cue(0, 2, 0, 1);
        two.cue(2, 0, 20, 1);
        two.cue(2, 2, 0, 1);
        two.go(4);
        Checks.due("flyer 0 is hurt", two.flyer(0, 0), 4);
        Checks.dueDouble("mean() with one who is hurt", two.mean(), 3.0 / 3.0);
    }

    private static BigInteger with(BigInteger d, long x) {
        return d.multiply(BigInteger.valueOf(31)).add(BigInteger.valueOf(x));
    }

    private static void digestIs(Replay replayed, int trapezes, int flyers, int cues, int... netEnds) {
        CircusLines x = replayed.fresh();
        BigInteger d = BigInteger.valueOf(1061);
        for (int what = 0; what <= 8; what++) {
            d = with(d, x.count(what));
        }
        for (int i = 0; i < trapezes * 8; i++) {
            d = with(d, x.trapeze(i / 8, i % 8));
        }
        for (int i = 0; i < flyers * 5; i++) {
            d = with(d, x.flyer(i / 5, i % 5));
        }
        for (int i = 0; i < cues * 5; i++) {
            d = with(d, x.called(i / 5, i % 5));
        }
        for (int end : netEnds) {
            d = with(d, end);
        }
        // The lowest 64 bits of the number that never wraps.
        Checks.due("digest()", x.digest(), d.longValue());
    }

    private static void digestWrapsAround() {
        Checks.sentence("Promise 21: d becomes d * 31 + x, which wraps around as a 64-bit integer");
        digestIs(new Replay(), 0, 0, 0);
        Checks.due("digest() of a new one", new Replay().digest(), 1061L * 31 * 31 * 31 * 31 * 31 * 31 * 31 * 31 * 31);
        digestIs(Scenes.oneHanging(), 1, 1, 0);
        digestIs(Scenes.busy(), 3, 7, 5, 5, 5);
        digestIs(Scenes.full(), 6, 8, 20, -50, 10, 30, 60, 100, 150);
        Replay later = Scenes.full();
        for (int i = 0; i < 6; i++) {
            later.go(2);
            digestIs(later, 6, 8, 20, -50, 10, 30, 60, 100, 150);
        }
    }

    private static void digestOfEachKindAlone() {
        Checks.sentence("Promise 21: for each trapeze .. ; for each flyer .. ; for each cue .. ; of each net: none, and all");
        Replay trapezes = new Replay();
        for (int i = 0; i < 6; i++) {
            trapezes.rig(i, 20, i, 9);
            digestIs(trapezes, i + 1, 0, 0);
        }
        Replay cues = new Replay();
        for (int i = 0; i < 8; i++) {
            cues.join();
            digestIs(cues, 0, i + 1, 0);
        }
        for (int i = 0; i < 20; i++) {
            cues.cue(9999 - i, i % 8, -20 + i, 1 + i % 6);
            digestIs(cues, 0, 8, i + 1);
        }
        Replay nets = new Replay();
        nets.spread(-50, -50);
        digestIs(nets, 0, 0, 0, -50, -50);
        nets.spread(150, 150);
        digestIs(nets, 0, 0, 0, -50, -50, 150, 150);
        nets.spread(-1, 1);
        digestIs(nets, 0, 0, 0, -50, -50, 150, 150, -1, 1);
    }

    public static void main(String[] args) {
        goes1To200();
        goTellsTheCatches();
        goesInPartsAsInOne();
        meetsOnesThatThereAre();
        meetsByAtMost2();
        meetsInAtMost200();
        meetsNoBrokenOne();
        fliesWithOnesThatThereAre();
        fliesWhoHangs();
        fliesByTheLeastReach();
        fliesByTheFarthestReach();
        fliesInAtMost6Beats();
        fliesToAnyTrapeze();
        fliesAsTold();
        advisesOnOnesThatThereAre();
        advisesOnTwo();
        advisesTheLeastOfSeveral();
        advisesTheHeaviest();
        advisesIn200Beats();
        advisesOnNoBrokenOne();
        foresees1To200();
        foresees4To8();
        foreseesWhatWillBe();
        foreseesInTheMidst();
        foreseesTwiceTheSame();
        meanOfNone();
        meanOfAll();
        digestWrapsAround();
        digestOfEachKindAlone();
        Checks.end();
    }
}

/** The edges that the section "Terms" names, but for those of a beat: each with the sentence that it would see broken. */
public final class EdgesOfTermsTest {
    private static void callsUpToThe512th() {
        Checks.sentence("An object is used for at most 512 calls after it has been made");
        CircusLines x = new CircusLines();
        for (int call = 1; call <= 511; call++) {
            Checks.due("go(200)", x.go(200), 0);
        }
        Checks.due("the 512th call, count(0)", x.count(0), 102200);
        CircusLines y = new CircusLines();
        y.rig(50, 10, 1, 5);
        for (int call = 2; call <= 511; call++) {
            y.go(200);
        }
        // 510 * 200 beats are 17000 times 6: it is at its left end, and two beats later at 40 + 40 / 3.
        Checks.due("the 512th call, place(0, 500)", y.place(0, 500), 53);
        CircusLines z = new CircusLines();
        for (int call = 1; call <= 511; call++) {
            Checks.dueThrown("spread(1, 0)", Scenes.BAD_ARGUMENT, z, c -> c.spread(1, 0));
        }
        Checks.due("the 512th call, spread(0, 0)", z.spread(0, 0), 1);
    }

    private static void divisionIsCut() {
        Checks.sentence("All numbers are whole, and / is cut towards 0");
        Replay x = new Replay();
        x.rig(0, 1, 1, 1);
        x.rig(50, 20, 10, 1);
        Checks.duePlaces(x, 0, -1, -1, 0, 1, 1, 0, -1);
        Checks.duePlaces(x, 1, 30, 33, 36, 40, 43, 46, 50, 53, 56, 60, 63, 66,
            70, 67, 64, 60, 57, 54, 50, 47, 44, 40, 37, 34, 30);
    }

    private static void timeIsToldFrom0() {
        Checks.sentence("Time is told in beats, from 0");
        Replay x = Scenes.oneHanging();
        Checks.due("count(0)", x.count(0), 0);
        x.cue(0, 0, 0, 1);
        x.go(1);
        Checks.due("count(0)", x.count(0), 1);
        Checks.due("the cue of beat 0 was called in the first beat", x.called(0, 4), 1);
    }

    private static void placesBelow0() {
        Checks.sentence("Places lie on a line, and can be less than 0");
        Replay x = new Replay();
        x.rig(0, 20, 0, 9);
        Checks.duePlaces(x, 0, -20, 0, 20, 0, -20);
        x.join();
        x.mount(0, 0);
        x.cue(0, 0, -20, 1);
        x.spread(-40, -40);
        x.go(1);
        Checks.dueFlyer(x, 0, 2, -1, -40, 0, 0);
        x.go(1);
        Checks.dueFlyer(x, 0, 3, -1, 0, -1, 0);
        Replay y = new Replay();
        y.rig(0, 20, 0, 9);
        y.rig(0, 20, 1, 9);
        y.join();
        y.mount(0, 0);
        y.cue(0, 0, 0, 6);
        Checks.due("caught at a place below 0", y.go(7), 1);
        Checks.dueFlyer(y, 0, 1, 1, 0, -1, 1);
    }

    private static void theFarthestPlaces() {
        Checks.sentence("Places lie on a line, and can be less than 0: the farthest that there are");
        Replay x = new Replay();
        x.rig(99, 20, 0, 9);
        Checks.duePlaces(x, 0, 79, 99, 119, 99, 79);
        x.join();
        x.mount(0, 0);
        x.cue(2, 0, 20, 6);
        x.spread(139, 139);
        x.go(8);
        Checks.dueFlyer(x, 0, 2, -1, 139, 0, 0);
        x.go(1);
        Checks.dueFlyer(x, 0, 3, -1, 0, -1, 0);
    }

    private static void atMost6Trapezes() {
        Checks.sentence("There are at most 6, numbered from 0 in the order of their hanging");
        Replay x = new Replay();
        Checks.refuses("trapeze(0, 0) when there is none", Scenes.BAD_INDEX, x, c -> c.trapeze(0, 0));
        for (int number = 0; number < 6; number++) {
            int next = number + 1;
            Checks.due("rig", x.rig(10 + number, 5, 2, 9), number);
            Checks.due("trapeze(number, 0)", x.trapeze(number, 0), 10 + number);
            Checks.refuses("trapeze(number + 1, 0)", Scenes.BAD_INDEX, x, c -> c.trapeze(next, 0));
        }
        Checks.refuses("a 7th", Scenes.BAD_STATE, x, c -> c.rig(16, 5, 2, 9));
        Checks.due("count(1)", x.count(1), 6);
    }

    private static void ropesAreNewAtFirst() {
        Checks.sentence("a rope of a strength, 1 to 99, worn by 0 (at first) or more, and is whole (at first) or broken");
        Replay x = new Replay();
        x.rig(50, 10, 2, 1);
        x.rig(50, 10, 2, 99);
        Checks.dueTrapeze(x, 0, 50, 10, 2, 1, 0, 1, 40, 0);
        Checks.dueTrapeze(x, 1, 50, 10, 2, 99, 0, 1, 40, 0);
        x.join();
        x.mount(0, 1);
        // One wear a swing of 8 beats: by 99 the rope holds, by 100 it doesn't.
        for (int beats = 0; beats < 784; beats += 196) {
            x.go(196);
        }
        Checks.dueTrapeze(x, 1, 50, 10, 2, 99, 98, 1, 40, 1);
        x.go(1);
        Checks.dueTrapeze(x, 1, 50, 10, 2, 99, 99, 1, 45, 1);
        x.go(7);
        Checks.dueTrapeze(x, 1, 50, 10, 2, 99, 99, 1, 40, 1);
        x.go(1);
        Checks.dueTrapeze(x, 1, 50, 10, 2, 99, 100, 0, 45, 0);
        Checks.dueTrapeze(x, 0, 50, 10, 2, 1, 0, 1, 45, 0);
    }

    private static void swingsInTwiceH() {
        Checks.sentence("It swings from its left end to its right one in h = 2 + counterweight beats, and back in as many");
        for (int weight = 0; weight <= 10; weight++) {
            Replay x = new Replay();
            x.rig(50, 20, weight, 9);
            int h = 2 + weight;
            Checks.due("at its left end", x.place(0, 0), 30);
            Checks.due("a beat behind it", x.place(0, 1), 30 + 40 / h);
            Checks.due("a beat before its right end", x.place(0, h - 1), 30 + 40 * (h - 1) / h);
            Checks.due("at its right end", x.place(0, h), 70);
            Checks.due("a beat behind its right end", x.place(0, h + 1), 70 - 40 / h);
            Checks.due("a beat before its left end", x.place(0, 2 * h - 1), 70 - 40 * (h - 1) / h);
            Checks.due("at its left end again", x.place(0, 2 * h), 30);
            Checks.due("a beat behind it again", x.place(0, 2 * h + 1), 30 + 40 / h);
        }
    }

    private static void atItsLeftEndWhenHung() {
        Checks.sentence("In the beat in which it was hung .. and each 2 * h beats later, it is at its left end");
        for (int hungIn = 0; hungIn <= 9; hungIn++) {
            Replay x = new Replay();
            if (hungIn > 0) {
                x.go(hungIn);
            }
            x.rig(50, 10, 2, 9);
            Checks.duePlaces(x, 0, 40, 45, 50, 55, 60, 55, 50, 45, 40, 45);
            dueWornEach8(x, x.join());
        }
    }

    /** From a beat in which trapeze 0 with h = 4 is at its left end: its rope is worn in this and each 8 beats later. */
    private static void dueWornEach8(Replay x, int flyer) {
        x.mount(flyer, 0);
        for (int beat = 0; beat <= 17; beat++) {
            x.go(1);
            Checks.due("worn behind " + (beat + 1) + " beats", x.trapeze(0, 4), 1 + beat / 8);
        }
    }

    private static void atItsLeftEndWhenWeighed() {
        Checks.sentence("In the beat in which .. its counterweight was set, and each 2 * h beats later, it is at its left end");
        for (int weighedIn = 0; weighedIn <= 9; weighedIn++) {
            Replay x = new Replay();
            x.rig(50, 10, 3, 9);
            if (weighedIn > 0) {
                x.go(weighedIn);
            }
            x.weigh(0, 2);
            Checks.duePlaces(x, 0, 40, 45, 50, 55, 60, 55, 50, 45, 40, 45);
            dueWornEach8(x, x.join());
        }
    }

    private static void atItsLeftEndByBeats() {
        Checks.sentence("With p beats since it was at its left end the latest time: not by its place");
        Replay x = new Replay();
        x.rig(50, 1, 10, 9);
        x.join();
        x.mount(0, 0);
        // It is at 49, the place of its left end, for six beats in 24.
        Checks.duePlaces(x, 0, 49, 49, 49, 49, 49, 49, 50, 50, 50, 50, 50, 50, 51, 51, 51, 51, 51, 51, 50, 50, 50, 50, 50, 50,
            49);
        x.go(24);
        Checks.due("worn behind 24 beats", x.trapeze(0, 4), 1);
        x.go(1);
        Checks.due("worn behind 25 beats", x.trapeze(0, 4), 2);
        x.go(5);
        Checks.due("worn behind 30 beats", x.trapeze(0, 4), 2);
    }

    private static void wornAtItsLeftEndOnly() {
        Checks.sentence("In the beat in which it was hung, or its counterweight was set, and each 2 * h beats later, it is at"
            + " its left end: of each width and counterweight");
        for (int width = 1; width <= 20; width++) {
            for (int weight = 0; weight <= 10; weight++) {
                CircusLines x = new CircusLines();
                x.rig(50, width, weight, 99);
                x.mount(x.join(), 0);
                dueWornEachSwing(x, weight, 0);
                x.go(1 + (width + weight) % 3);
                int worn = x.trapeze(0, 4);
                x.weigh(0, 10 - weight);
                dueWornEachSwing(x, 10 - weight, worn);
            }
        }
    }

    /** From a beat in which trapeze 0 is at its left end: by one more in this beat, and in the one 2 * h beats later. */
    private static void dueWornEachSwing(CircusLines x, int weight, int wornBefore) {
        int swing = 2 * (2 + weight);
        for (int beat = 0; beat <= swing; beat++) {
            x.go(1);
            int due = wornBefore + 1 + beat / swing;
            Checks.due("worn " + beat + " beats behind its left end, counterweight " + weight, x.trapeze(0, 4), due);
        }
    }

    private static void atMost8Flyers() {
        Checks.sentence("There are at most 8, numbered likewise");
        Replay x = new Replay();
        Checks.refuses("flyer(0, 0) when there is none", Scenes.BAD_INDEX, x, c -> c.flyer(0, 0));
        for (int number = 0; number < 8; number++) {
            int next = number + 1;
            Checks.due("join()", x.join(), number);
            Checks.due("flyer(number, 0)", x.flyer(number, 0), 0);
            Checks.refuses("flyer(number + 1, 0)", Scenes.BAD_INDEX, x, c -> c.flyer(next, 0));
        }
        Checks.refuses("a 9th", Scenes.BAD_STATE, x, CircusLines::join);
        Checks.due("count(3)", x.count(3), 8);
    }

    private static void atMostTwoFromOne() {
        Checks.sentence("each hangs from a trapeze (at most two from one)");
        Replay x = new Replay();
        x.rig(50, 10, 2, 99);
        x.rig(50, 10, 2, 99);
        Scenes.joinMany(x, 4);
        Checks.due("trapeze(0, 7)", x.trapeze(0, 7), 0);
        Checks.due("mount(0, 0)", x.mount(0, 0), 1);
        Checks.due("trapeze(0, 7)", x.trapeze(0, 7), 1);
        Checks.due("mount(1, 0)", x.mount(1, 0), 2);
        Checks.due("trapeze(0, 7)", x.trapeze(0, 7), 2);
        Checks.refuses("a third", Scenes.BAD_STATE, x, c -> c.mount(2, 0));
        Checks.due("mount(2, 1)", x.mount(2, 1), 1);
        Checks.due("mount(3, 1)", x.mount(3, 1), 2);
    }

    private static void standsAsideAtFirst() {
        Checks.sentence("flies, is in a net, is hurt, or stands aside (at first)");
        Replay x = new Replay();
        x.spread(-50, 150);
        x.join();
        Checks.dueFlyer(x, 0, 0, -1, 0, -1, 0);
        x.go(200);
        Checks.dueFlyer(x, 0, 0, -1, 0, -1, 0);
        Replay busy = Scenes.busy();
        int[] states = {1, 1, 1, 2, 3, 4, 0};
        for (int flyer = 0; flyer < states.length; flyer++) {
            Checks.due("flyer(" + flyer + ", 0)", busy.flyer(flyer, 0), states[flyer]);
        }
    }

    private static void flightsTakeTheirTime() {
        Checks.sentence("By a reach, -20 to 20, and a time, 1 to 6 beats, a flyer who lets go comes in the beat that is as"
            + " much later as the time");
        for (int time = 1; time <= 6; time++) {
            Replay x = Scenes.oneHanging();
            x.spread(-50, 150);
            x.cue(0, 0, 20, time);
            for (int beat = 0; beat < time; beat++) {
                x.go(1);
                Checks.dueFlyer(x, 0, 2, -1, 60, time - 1 - beat, 0);
            }
            x.go(1);
            // In four beats the trapeze is at 60 itself.
            Checks.due("at the end of " + time + " beats", x.flyer(0, 0), time == 4 ? 1 : 3);
        }
    }

    private static void flightsGoFromThePlaceOfLettingGo() {
        Checks.sentence("to the place that is the reach more than that of the trapeze at the beat of letting go");
        int[] places = {40, 45, 50, 55, 60, 55, 50, 45};
        for (int beat = 0; beat < 8; beat++) {
            for (int reach : new int[] {-20, -19, -1, 0, 1, 19, 20}) {
                Replay x = Scenes.oneHanging();
                x.cue(beat, 0, reach, 6);
                x.go(beat + 1);
                Checks.dueFlyer(x, 0, 2, -1, places[beat] + reach, 5, 0);
                x.go(5);
                Checks.dueFlyer(x, 0, 2, -1, places[beat] + reach, 0, 0);
            }
        }
    }

    private static void fallsIntoNets() {
        Checks.sentence("Falling at a place: into a net, if one is spread there; otherwise the flyer is hurt");
        int[][] nets = {{59, 61}, {64, 64}, {66, 70}};
        for (int place = 56; place <= 72; place++) {
            Replay x = Scenes.oneHanging();
            for (int[] net : nets) {
                x.spread(net[0], net[1]);
            }
            // From 55 in beat 3; in beat 9 the trapeze is at 45, too far off.
            x.cue(3, 0, place - 55, 6);
            x.go(10);
            boolean into = place >= 59 && place <= 61 || place == 64 || place >= 66 && place <= 70;
            Checks.dueFlyer(x, 0, into ? 3 : 4, -1, 0, -1, 0);
        }
        Replay none = Scenes.oneHanging();
        none.cue(3, 0, 0, 6);
        none.go(10);
        Checks.dueFlyer(none, 0, 4, -1, 0, -1, 0);
    }

    private static void hurtForGood() {
        Checks.sentence("otherwise the flyer is hurt, for good");
        Replay x = Scenes.oneHanging();
        x.cue(3, 0, 20, 1);
        x.go(5);
        Checks.due("hurt", x.flyer(0, 0), 4);
        x.spread(-50, 150);
        x.rig(85, 10, 2, 9);
        x.cue(6, 0, 0, 1);
        x.go(200);
        Checks.dueFlyer(x, 0, 4, -1, 0, -1, 0);
        Checks.refuses("mount of one who is hurt", Scenes.BAD_STATE, x, c -> c.mount(0, 1));
        Checks.due("the cue was missed", x.called(1, 4), 2);
        x.mend(0);
        x.weigh(0, 0);
        Checks.dueFlyer(x, 0, 4, -1, 0, -1, 0);
    }

    private static void netsWithBothEnds() {
        Checks.sentence("There are at most 3, each spread from a place to another one, with both");
        Replay x = new Replay();
        Checks.due("spread(10, 12)", x.spread(10, 12), 1);
        Checks.due("spread(20, 20)", x.spread(20, 20), 2);
        Checks.due("spread(-7, -6)", x.spread(-7, -6), 3);
        Checks.refuses("a 4th", Scenes.BAD_STATE, x, c -> c.spread(30, 40));
        for (int place = -60; place <= 160; place++) {
            boolean in = place >= 10 && place <= 12 || place == 20 || place == -7 || place == -6;
            Checks.due("netAt(" + place + ")", x.netAt(place), in);
        }
    }

    private static void atMost20Cues() {
        Checks.sentence("There are at most 20, numbered likewise; each has a beat, a flyer, a reach and a time");
        Replay x = new Replay();
        Scenes.joinMany(x, 2);
        Checks.refuses("called(0, 0) when there is none", Scenes.BAD_INDEX, x, c -> c.called(0, 0));
        for (int number = 0; number < 20; number++) {
            int next = number + 1;
            Checks.due("cue", x.cue(30 - number, number % 2, number - 10, 1 + number % 6), number);
            Checks.refuses("called(number + 1, 0)", Scenes.BAD_INDEX, x, c -> c.called(next, 0));
        }
        Checks.refuses("a 21st", Scenes.BAD_STATE, x, c -> c.cue(30, 0, 0, 1));
        for (int number = 0; number < 20; number++) {
            Checks.dueCalled(x, number, 30 - number, number % 2, number - 10, 1 + number % 6, 0);
        }
    }

    private static void cuesAreOpenAtFirst() {
        Checks.sentence("it is open (at first), done, or missed");
        Replay x = Scenes.oneHanging();
        x.join();
        x.cue(2, 0, 0, 1);
        x.cue(2, 1, 0, 1);
        x.cue(3, 0, 0, 1);
        Checks.due("called(0, 4)", x.called(0, 4), 0);
        x.go(2);
        Checks.due("called(0, 4)", x.called(0, 4), 0);
        Checks.due("called(1, 4)", x.called(1, 4), 0);
        x.go(1);
        Checks.due("called(0, 4)", x.called(0, 4), 1);
        Checks.due("called(1, 4)", x.called(1, 4), 2);
        Checks.due("called(2, 4)", x.called(2, 4), 0);
        x.go(200);
        Checks.due("called(0, 4)", x.called(0, 4), 1);
        Checks.due("called(1, 4)", x.called(1, 4), 2);
        Checks.due("called(2, 4)", x.called(2, 4), 2);
    }

    public static void main(String[] args) {
        callsUpToThe512th();
        divisionIsCut();
        timeIsToldFrom0();
        placesBelow0();
        theFarthestPlaces();
        atMost6Trapezes();
        ropesAreNewAtFirst();
        swingsInTwiceH();
        atItsLeftEndWhenHung();
        atItsLeftEndWhenWeighed();
        atItsLeftEndByBeats();
        wornAtItsLeftEndOnly();
        atMost8Flyers();
        atMostTwoFromOne();
        standsAsideAtFirst();
        flightsTakeTheirTime();
        flightsGoFromThePlaceOfLettingGo();
        fallsIntoNets();
        hurtForGood();
        netsWithBothEnds();
        atMost20Cues();
        cuesAreOpenAtFirst();
        Checks.end();
    }
}

/** The edges that the four steps of a beat name, each with the sentence that it would see broken. */
public final class EdgesOfABeatTest {
    private static final int STANDS = 0;
    private static final int HANGS = 1;
    private static final int FLIES = 2;
    private static final int IN_NET = 3;
    private static final int HURT = 4;

    /** A trapeze that stays at the place in the first six beats: by h = 12 and a width of 1 the cut leaves it there. */
    private static int rigStill(Replay x, int place, int strength) {
        return x.rig(place + 1, 1, 10, strength);
    }

    /** Trapeze 0 stays at 40; from it hang flyers 0 and, if there are two or more, 1. */
    private static Replay launchers(int flyers) {
        Replay x = new Replay();
        rigStill(x, 40, 99);
        Scenes.joinMany(x, flyers);
        x.mount(0, 0);
        if (flyers > 1) {
            x.mount(1, 0);
        }
        return x;
    }

    private static void dueFlyerIs(Replay x, int flyer, int state, int trapeze, int caught) {
        Checks.due("flyer(" + flyer + ", 0)", x.flyer(flyer, 0), state);
        Checks.due("flyer(" + flyer + ", 1)", x.flyer(flyer, 1), trapeze);
        Checks.due("flyer(" + flyer + ", 4)", x.flyer(flyer, 4), caught);
    }

    private static void cuesOfThisBeatAlone() {
        Checks.sentence("1. Cues of this beat");
        for (int beat = 0; beat <= 3; beat++) {
            Replay x = launchers(1);
            x.cue(beat, 0, 0, 6);
            for (int gone = 0; gone <= 5; gone++) {
                Checks.due("called(0, 4) behind " + gone + " beats", x.called(0, 4), gone > beat ? 1 : 0);
                Checks.due("flyer(0, 0) behind " + gone + " beats", x.flyer(0, 0), gone > beat ? FLIES : HANGS);
                x.go(1);
            }
        }
    }

    private static void cuesByNumbers() {
        Checks.sentence("1. Cues of this beat, by numbers");
        Replay x = launchers(1);
        x.cue(1, 0, 7, 3);
        x.cue(0, 0, 20, 6);
        x.cue(0, 0, -20, 1);
        x.go(1);
        Checks.dueCalled(x, 0, 1, 0, 7, 3, 0);
        Checks.dueCalled(x, 1, 0, 0, 20, 6, 1);
        Checks.dueCalled(x, 2, 0, 0, -20, 1, 2);
        Checks.dueFlyer(x, 0, FLIES, -1, 60, 5, 0);
        Replay y = launchers(1);
        y.cue(0, 0, -20, 1);
        y.cue(0, 0, 20, 6);
        y.go(1);
        Checks.dueCalled(y, 0, 0, 0, -20, 1, 1);
        Checks.dueCalled(y, 1, 0, 0, 20, 6, 2);
        Checks.dueFlyer(y, 0, FLIES, -1, 20, 0, 0);
    }

    private static void cuesOfAllWhoHang() {
        Checks.sentence("if the flyer hangs from a trapeze, this one lets go, and the cue is done; otherwise it is missed");
        int[] due = {1, 1, 1, 2, 2, 2, 2};
        for (int flyer = 0; flyer < due.length; flyer++) {
            Replay x = Scenes.busy();
            int state = x.flyer(flyer, 0);
            int cue = x.cue(3, flyer, 1, 6);
            x.go(1);
            // Cue 3 of the scene takes flyer 1 off in this beat already.
            Checks.due("called(" + cue + ", 4)", x.called(cue, 4), flyer == 1 ? 2 : due[flyer]);
            Checks.due("flyer(" + flyer + ", 0)", x.flyer(flyer, 0), state == HANGS ? FLIES : state);
        }
        Replay x = Scenes.busy();
        int first = x.cue(3, 0, 1, 6);
        int second = x.cue(3, 2, 2, 5);
        x.go(1);
        Checks.due("both are done", x.called(first, 4) + x.called(second, 4), 2);
        Checks.due("all fly", x.count(5), 4);
        Checks.due("nobody hangs", x.count(4), 0);
        Checks.due("trapeze(2, 7)", x.trapeze(2, 7), 0);
    }

    private static void flightsThatEndInThisBeat() {
        Checks.sentence("2. Flyers, by numbers, whose flight ends in this beat");
        // Trapeze 1 stays at 60, so one who came too early would be caught too.
        for (int time = 1; time <= 5; time++) {
            Replay x = launchers(1);
            rigStill(x, 60, 99);
            x.cue(0, 0, 20, time);
            for (int beat = 0; beat < time; beat++) {
                Checks.due("go(1) in beat " + beat, x.go(1), 0);
                dueFlyerIs(x, 0, FLIES, -1, 0);
            }
            Checks.due("go(1) in beat " + time, x.go(1), 1);
            dueFlyerIs(x, 0, HANGS, 1, 1);
            Checks.due("go(1) a beat later", x.go(1), 0);
            dueFlyerIs(x, 0, HANGS, 1, 1);
        }
    }

    private static void flyersByNumbers() {
        Checks.sentence("2. Flyers, by numbers: the smallest is caught first, whoever was called first or flies longer");
        int[][] cues = {{0, 1}, {1, 0}};
        for (int[] order : cues) {
            Replay x = launchers(3);
            rigStill(x, 60, 99);
            x.mount(2, 1);
            x.cue(0, order[0], 20, 1);
            x.cue(0, order[1], 19, 1);
            Checks.due("go(2)", x.go(2), 1);
            dueFlyerIs(x, 0, HANGS, 1, 1);
            dueFlyerIs(x, 1, HURT, -1, 0);
        }
        Replay y = launchers(3);
        rigStill(y, 60, 99);
        y.mount(2, 1);
        y.cue(0, 1, 20, 3);
        y.cue(2, 0, 20, 1);
        Checks.due("go(4)", y.go(4), 1);
        dueFlyerIs(y, 0, HANGS, 1, 1);
        dueFlyerIs(y, 1, HURT, -1, 0);
    }

    private static void theSmallestTrapezeCatches() {
        Checks.sentence("the trapeze with the smallest number .. catches each");
        int[][] places = {{62, 60, 58}, {58, 60, 62}, {60, 62, 60}, {63, 62, 60}, {57, 63, 58}, {57, 63, 64}};
        int[] catcher = {1, 1, 1, 2, 3, -1};
        for (int i = 0; i < places.length; i++) {
            Replay x = launchers(1);
            for (int place : places[i]) {
                rigStill(x, place, 99);
            }
            x.cue(0, 0, 20, 1);
            Checks.due("go(2)", x.go(2), catcher[i] < 0 ? 0 : 1);
            dueFlyerIs(x, 0, catcher[i] < 0 ? HURT : HANGS, catcher[i], catcher[i] < 0 ? 0 : 1);
        }
        Replay own = launchers(1);
        rigStill(own, 40, 99);
        own.cue(0, 0, 1, 2);
        Checks.due("go(3)", own.go(3), 1);
        dueFlyerIs(own, 0, HANGS, 0, 1);
        Replay last = new Replay();
        for (int i = 0; i < 5; i++) {
            rigStill(last, 60, 99);
        }
        rigStill(last, 40, 99);
        last.join();
        last.mount(0, 5);
        last.cue(0, 0, 20, 1);
        last.go(2);
        dueFlyerIs(last, 0, HANGS, 0, 1);
        Replay onlySixth = new Replay();
        for (int i = 0; i < 5; i++) {
            rigStill(onlySixth, 40, 99);
        }
        rigStill(onlySixth, 60, 99);
        onlySixth.join();
        onlySixth.mount(0, 0);
        onlySixth.cue(0, 0, 20, 1);
        onlySixth.go(2);
        dueFlyerIs(onlySixth, 0, HANGS, 5, 1);
    }

    /** Trapeze 1 stays at 60, its rope is broken in beat 0 already, and flyer 0 comes to 60 in beat 2. */
    private static Replay comingToABrokenOne() {
        Replay x = launchers(1);
        rigStill(x, 60, 1);
        x.spread(59, 59);
        Scenes.joinMany(x, 2);
        x.mount(1, 1);
        x.mount(2, 1);
        x.cue(0, 0, 20, 2);
        x.go(1);
        Checks.due("trapeze(1, 5)", x.trapeze(1, 5), 0);
        return x;
    }

    private static void onlyWholeOnesCatch() {
        Checks.sentence("the trapeze .. that is whole");
        Replay x = comingToABrokenOne();
        Checks.due("go(2)", x.go(2), 0);
        dueFlyerIs(x, 0, HURT, -1, 0);
        Replay next = comingToABrokenOne();
        rigStill(next, 60, 99);
        Checks.due("go(2) with a whole one behind it", next.go(2), 1);
        dueFlyerIs(next, 0, HANGS, 2, 1);
        Replay mended = comingToABrokenOne();
        mended.mend(1);
        Checks.due("go(2) when it is mended", mended.go(2), 1);
        dueFlyerIs(mended, 0, HANGS, 1, 1);
    }

    private static void fewerThanTwoHang() {
        Checks.sentence("the trapeze .. from which fewer than two hang");
        for (int hanging = 0; hanging <= 2; hanging++) {
            Replay x = launchers(1);
            rigStill(x, 60, 99);
            for (int i = 0; i < hanging; i++) {
                x.mount(x.join(), 1);
            }
            Replay next = launchers(1);
            rigStill(next, 60, 99);
            rigStill(next, 60, 99);
            for (int i = 0; i < hanging; i++) {
                next.mount(next.join(), 1);
            }
            x.cue(0, 0, 20, 1);
            next.cue(0, 0, 20, 1);
            boolean room = hanging < 2;
            Checks.due("go(2)", x.go(2), room ? 1 : 0);
            dueFlyerIs(x, 0, room ? HANGS : HURT, room ? 1 : -1, room ? 1 : 0);
            Checks.due("trapeze(1, 7)", x.trapeze(1, 7), room ? hanging + 1 : 2);
            Checks.due("go(2) with another behind it", next.go(2), 1);
            dueFlyerIs(next, 0, HANGS, room ? 1 : 2, 1);
        }
    }

    private static void whoWasCaughtInThisBeatHangs() {
        Checks.sentence("from which fewer than two hang: those whom it caught in this beat too");
        Replay x = launchers(3);
        int other = rigStill(x, 55, 99);
        rigStill(x, 60, 99);
        x.mount(2, other);
        x.cue(0, 0, 20, 1);
        x.cue(0, 1, 19, 1);
        x.cue(0, 2, 6, 1);
        Checks.due("go(2)", x.go(2), 2);
        dueFlyerIs(x, 0, HANGS, 2, 1);
        dueFlyerIs(x, 1, HANGS, 2, 1);
        dueFlyerIs(x, 2, HURT, -1, 0);
    }

    private static void differsByAtMost2() {
        Checks.sentence("and whose place differs by at most 2");
        for (int off = -4; off <= 4; off++) {
            boolean near = off >= -2 && off <= 2;
            Replay x = launchers(1);
            rigStill(x, 60 + off, 99);
            x.cue(0, 0, 20, 1);
            Checks.due("go(2), off by " + off, x.go(2), near ? 1 : 0);
            dueFlyerIs(x, 0, near ? HANGS : HURT, near ? 1 : -1, near ? 1 : 0);
            Replay own = launchers(1);
            own.cue(0, 0, off, 1);
            Checks.due("go(2), off by " + off + " of the same", own.go(2), near ? 1 : 0);
            dueFlyerIs(own, 0, near ? HANGS : HURT, near ? 0 : -1, near ? 1 : 0);
        }
    }

    private static void theCatchersPlaceInThisBeat() {
        Checks.sentence("whose place differs by at most 2: its place in the beat in which the flight ends");
        int[] places = {60, 65, 70, 75, 80, 75, 70};
        for (int time = 1; time <= 6; time++) {
            for (int reach = 8; reach <= 20; reach++) {
                Replay x = new Replay();
                x.rig(61, 1, 10, 99);
                x.rig(70, 10, 2, 99);
                x.join();
                x.mount(0, 0);
                x.cue(0, 0, reach, time);
                int off = 60 + reach - places[time];
                boolean near = off >= -2 && off <= 2;
                Checks.due("go(" + (time + 1) + ") with reach " + reach, x.go(time + 1), near ? 1 : 0);
                dueFlyerIs(x, 0, near ? HANGS : HURT, near ? 1 : -1, near ? 1 : 0);
            }
        }
    }

    private static void withoutOneFalls() {
        Checks.sentence("without one this flyer falls at the place");
        int[][] nets = {{20, 20}, {21, 150}, {-50, 19}, {19, 21}};
        int[] due = {IN_NET, HURT, HURT, IN_NET};
        for (int i = 0; i < nets.length; i++) {
            Replay x = launchers(1);
            x.spread(nets[i][0], nets[i][1]);
            x.cue(0, 0, -20, 4);
            Checks.due("go(4)", x.go(4), 0);
            Checks.dueFlyer(x, 0, FLIES, -1, 20, 0, 0);
            Checks.due("go(1)", x.go(1), 0);
            Checks.dueFlyer(x, 0, due[i], -1, 0, -1, 0);
        }
    }

    /** A trapeze at 5, 10, 15, 10 and 5 again, and so many who hang from it. */
    private static Replay swinging(int strength, int hanging) {
        Replay x = new Replay();
        x.rig(10, 5, 0, strength);
        for (int i = 0; i < hanging; i++) {
            x.mount(x.join(), 0);
        }
        return x;
    }

    private static void wornByOneForEach() {
        Checks.sentence("the rope is worn by 1 more for each who hangs from it");
        for (int hanging = 0; hanging <= 2; hanging++) {
            Replay x = swinging(99, hanging);
            for (int beat = 0; beat < 13; beat++) {
                x.go(1);
                Checks.due("worn in beat " + beat, x.trapeze(0, 4), hanging * (1 + beat / 4));
            }
        }
        Replay others = swinging(99, 2);
        others.rig(30, 5, 0, 99);
        others.rig(50, 5, 0, 99);
        others.mount(others.join(), 2);
        others.go(5);
        Checks.due("worn by two", others.trapeze(0, 4), 4);
        Checks.due("worn by none", others.trapeze(1, 4), 0);
        Checks.due("worn by one", others.trapeze(2, 4), 2);
    }

    private static void brokenByMoreThanItsStrength() {
        Checks.sentence("if it is worn by more than its strength then, it is broken");
        int[][] strengthAndHanging = {{1, 1}, {2, 1}, {3, 1}, {1, 2}, {2, 2}, {3, 2}, {4, 2}, {5, 2}};
        for (int[] row : strengthAndHanging) {
            Replay x = swinging(row[0], row[1]);
            int worn = 0;
            while (worn <= row[0]) {
                Checks.due("trapeze(0, 5) before", x.trapeze(0, 5), 1);
                Checks.due("trapeze(0, 7) before", x.trapeze(0, 7), row[1]);
                x.go(1);
                worn += row[1];
                Checks.due("trapeze(0, 4)", x.trapeze(0, 4), worn);
                Checks.due("trapeze(0, 5)", x.trapeze(0, 5), worn > row[0] ? 0 : 1);
                Checks.due("trapeze(0, 7)", x.trapeze(0, 7), worn > row[0] ? 0 : row[1]);
                Checks.due("count(2)", x.count(2), worn > row[0] ? 0 : 1);
                x.go(3);
            }
        }
    }

    private static void whoHangsFallsAtItsPlace() {
        Checks.sentence("it is broken, and who hangs from it falls at its place");
        int[][] nets = {{5, 5}, {6, 150}, {-50, 4}, {4, 6}};
        int[] due = {IN_NET, HURT, HURT, IN_NET};
        for (int i = 0; i < nets.length; i++) {
            for (int hanging = 1; hanging <= 2; hanging++) {
                Replay x = swinging(1, hanging);
                x.rig(10, 5, 0, 99);
                x.mount(x.join(), 1);
                x.join();
                x.spread(nets[i][0], nets[i][1]);
                x.go(5);
                for (int flyer = 0; flyer < hanging; flyer++) {
                    Checks.dueFlyer(x, flyer, due[i], -1, 0, -1, 0);
                }
                // Who hangs from another one, or stands aside, falls not.
                Checks.dueFlyer(x, hanging, HANGS, 1, 0, -1, 0);
                Checks.dueFlyer(x, hanging + 1, STANDS, -1, 0, -1, 0);
            }
        }
    }

    private static void onlyWholeOnesWear() {
        Checks.sentence("3. Trapezes, by numbers, that are whole and at their left end");
        Replay x = swinging(1, 2);
        x.spread(5, 5);
        x.go(200);
        Checks.due("a broken rope is worn no more", x.trapeze(0, 4), 2);
        Checks.due("mend(0)", x.mend(0), 2);
        x.mount(0, 0);
        x.go(1);
        // Beat 200 is a left end: it swings on while it is broken.
        Checks.due("a mended one is worn", x.trapeze(0, 4), 1);
        x.go(3);
        Checks.due("by the next left end", x.trapeze(0, 4), 1);
        x.go(1);
        Checks.due("in it", x.trapeze(0, 4), 2);
        Checks.due("it is broken", x.trapeze(0, 5), 0);
    }

    private static void allTrapezesOfABeat() {
        Checks.sentence("3. Trapezes, by numbers: each of them in the same beat");
        Replay x = new Replay();
        for (int i = 0; i < 4; i++) {
            x.rig(10 + 20 * i, 5, 0, i % 2 == 0 ? 1 : 2);
            x.mount(x.join(), i);
            x.mount(x.join(), i);
        }
        x.spread(5, 5);
        x.go(1);
        for (int i = 0; i < 4; i++) {
            Checks.due("trapeze(" + i + ", 4)", x.trapeze(i, 4), 2);
            Checks.due("trapeze(" + i + ", 5)", x.trapeze(i, 5), i % 2);
        }
        Checks.dueCounts(x, 1, 4, 2, 8, 4, 0, 2, 2, 0);
    }

    private static void theBeatIs1Greater() {
        Checks.sentence("4. The beat is 1 greater");
        Replay x = Scenes.oneHanging();
        for (int beat = 1; beat <= 9; beat++) {
            x.go(1);
            Checks.due("count(0)", x.count(0), beat);
        }
        x.go(2);
        Checks.due("count(0)", x.count(0), 11);
        x.go(200);
        Checks.due("count(0)", x.count(0), 211);
    }

    private static void cuesComeBeforeFlightsEnd() {
        Checks.sentence("A beat goes like this: cues first, then flights that end");
        Replay room = launchers(3);
        rigStill(room, 60, 99);
        room.join();
        room.mount(2, 1);
        room.mount(3, 1);
        room.cue(0, 0, 20, 1);
        room.cue(1, 2, 0, 6);
        Checks.due("go(2) to one that lets go in this beat", room.go(2), 1);
        dueFlyerIs(room, 0, HANGS, 1, 1);
        Replay late = launchers(1);
        rigStill(late, 60, 99);
        late.cue(0, 0, 20, 1);
        late.cue(1, 0, 0, 1);
        late.cue(2, 0, -20, 1);
        late.go(2);
        Checks.due("the cue in the beat of the catch is missed", late.called(1, 4), 2);
        dueFlyerIs(late, 0, HANGS, 1, 1);
        Checks.due("go(2)", late.go(2), 1);
        Checks.due("the cue a beat later is done", late.called(2, 4), 1);
        dueFlyerIs(late, 0, HANGS, 0, 2);
    }

    private static void cuesComeBeforeRopesWear() {
        Checks.sentence("A beat goes like this: cues first, then ropes are worn");
        Replay x = swinging(1, 1);
        x.cue(4, 0, 0, 6);
        x.go(5);
        Checks.dueTrapeze(x, 0, 10, 5, 0, 1, 1, 1, 10, 0);
        dueFlyerIs(x, 0, FLIES, -1, 0);
        Replay y = swinging(1, 1);
        y.cue(5, 0, 0, 6);
        y.go(6);
        Checks.dueTrapeze(y, 0, 10, 5, 0, 1, 2, 0, 15, 0);
        Checks.due("the cue a beat later is missed", y.called(0, 4), 2);
        dueFlyerIs(y, 0, HURT, -1, 0);
    }

    /** Flyer 0 comes from 20 to 5 in beat 4, where trapeze 0 is at its left end then. */
    private static Replay comingAtTheLeftEnd(int strength, int hanging) {
        Replay x = new Replay();
        x.rig(10, 5, 0, strength);
        rigStill(x, 20, 99);
        x.join();
        x.mount(0, 1);
        for (int i = 0; i < hanging; i++) {
            x.mount(x.join(), 0);
        }
        x.cue(0, 0, -15, 4);
        return x;
    }

    private static void flightsEndBeforeRopesWear() {
        Checks.sentence("A beat goes like this: flights end, then ropes are worn");
        Replay x = comingAtTheLeftEnd(9, 0);
        Checks.due("go(4)", x.go(4), 0);
        Checks.due("go(1)", x.go(1), 1);
        dueFlyerIs(x, 0, HANGS, 0, 1);
        Checks.due("who is caught wears at once", x.trapeze(0, 4), 1);
        Replay y = comingAtTheLeftEnd(2, 1);
        y.spread(5, 5);
        Checks.due("go(5)", y.go(5), 1);
        Checks.dueTrapeze(y, 0, 10, 5, 0, 2, 3, 0, 10, 0);
        Checks.dueFlyer(y, 0, IN_NET, -1, 0, -1, 1);
        Checks.dueFlyer(y, 1, IN_NET, -1, 0, -1, 0);
        Replay z = comingAtTheLeftEnd(1, 1);
        z.spread(5, 5);
        Checks.due("the rope that breaks in this beat catches still", z.go(5), 1);
        Checks.dueFlyer(z, 0, IN_NET, -1, 0, -1, 1);
    }

    private static void flightsThatEndWhenTheRopeIsBroken() {
        Checks.sentence("A beat goes like this: a rope that is broken in a beat catches no more from the next on");
        // The trapeze is at 5 in beat 4, where its rope breaks, and at 10 in beat 5.
        Replay x = new Replay();
        x.rig(10, 5, 0, 1);
        rigStill(x, 20, 99);
        Scenes.joinMany(x, 2);
        x.mount(0, 1);
        x.mount(1, 0);
        x.cue(0, 0, -10, 5);
        Checks.due("go(6)", x.go(6), 0);
        dueFlyerIs(x, 0, HURT, -1, 0);
        Replay y = new Replay();
        y.rig(10, 5, 0, 2);
        rigStill(y, 20, 99);
        Scenes.joinMany(y, 2);
        y.mount(0, 1);
        y.mount(1, 0);
        y.cue(0, 0, -10, 5);
        Checks.due("go(6) when it holds", y.go(6), 1);
        dueFlyerIs(y, 0, HANGS, 0, 1);
    }

    public static void main(String[] args) {
        cuesOfThisBeatAlone();
        cuesByNumbers();
        cuesOfAllWhoHang();
        flightsThatEndInThisBeat();
        flyersByNumbers();
        theSmallestTrapezeCatches();
        onlyWholeOnesCatch();
        fewerThanTwoHang();
        whoWasCaughtInThisBeatHangs();
        differsByAtMost2();
        theCatchersPlaceInThisBeat();
        withoutOneFalls();
        wornByOneForEach();
        brokenByMoreThanItsStrength();
        whoHangsFallsAtItsPlace();
        onlyWholeOnesWear();
        allTrapezesOfABeat();
        theBeatIs1Greater();
        cuesComeBeforeFlightsEnd();
        cuesComeBeforeRopesWear();
        flightsEndBeforeRopesWear();
        flightsThatEndWhenTheRopeIsBroken();
        Checks.end();
    }
}

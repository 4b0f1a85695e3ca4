/** The edges that promises 9 to 14 name, each with the sentence that it would see broken. */
public final class EdgesOfAnswersTest {
    private static void asksTrapezesThatThereAre() {
        Checks.sentence("Promise 9: Throws IndexOutOfBoundsException if there is no such trapeze");
        Replay x = new Replay();
        for (int many = 0; many <= 6; many++) {
            for (int number : Scenes.outside(0, many - 1)) {
                for (int what = -1; what <= 8; what++) {
                    int asked = what;
                    Checks.refuses("trapeze", Scenes.BAD_INDEX, x, c -> c.trapeze(number, asked));
                }
            }
            for (int number = 0; number < many; number++) {
                Checks.dueTrapeze(x, number, 10 * number + 1, number + 1, number, 9 - number, 0, 1, 9 * number, 0);
            }
            if (many < 6) {
                x.rig(10 * many + 1, many + 1, many, 9 - many);
            }
        }
    }

    private static void asksOfATrapezeWhatThereIs() {
        Checks.sentence("Promise 9: Throws IndexOutOfBoundsException if .. what is not 0 to 7");
        Replay x = Scenes.busy();
        for (int trapeze = 0; trapeze < 3; trapeze++) {
            int known = trapeze;
            for (int what : Scenes.outside(0, 7)) {
                Checks.refuses("trapeze", Scenes.BAD_INDEX, x, c -> c.trapeze(known, what));
            }
        }
        int[][] due = {{50, 10, 2, 5, 1, 1, 55, 1}, {10, 5, 0, 1, 2, 0, 10, 0}, {90, 8, 4, 50, 2, 1, 90, 2}};
        for (int trapeze = 0; trapeze < 3; trapeze++) {
            for (int what = 0; what <= 7; what++) {
                int known = trapeze;
                int asked = what;
                Checks.duePure("trapeze(" + trapeze + ", " + what + ")", x, c -> c.trapeze(known, asked), due[trapeze][what]);
            }
        }
    }

    private static void asksFlyersThatThereAre() {
        Checks.sentence("Promise 10: Throws IndexOutOfBoundsException if there is no such flyer");
        Replay x = new Replay();
        for (int many = 0; many <= 8; many++) {
            for (int number : Scenes.outside(0, many - 1)) {
                for (int what = -1; what <= 5; what++) {
                    int asked = what;
                    Checks.refuses("flyer", Scenes.BAD_INDEX, x, c -> c.flyer(number, asked));
                }
            }
            for (int number = 0; number < many; number++) {
                Checks.dueFlyer(x, number, 0, -1, 0, -1, 0);
            }
            if (many < 8) {
                x.join();
            }
        }
    }

    private static void asksOfAFlyerWhatThereIs() {
        Checks.sentence("Promise 10: Throws IndexOutOfBoundsException if .. what is not 0 to 4");
        Replay x = Scenes.busy();
        for (int flyer = 0; flyer < 7; flyer++) {
            int known = flyer;
            for (int what : Scenes.outside(0, 4)) {
                Checks.refuses("flyer", Scenes.BAD_INDEX, x, c -> c.flyer(known, what));
            }
        }
        int[][] due = {{1, 0, 0, -1, 0}, {1, 2, 0, -1, 0}, {1, 2, 0, -1, 0}, {2, -1, 49, 2, 0}, {3, -1, 0, -1, 0},
            {4, -1, 0, -1, 0}, {0, -1, 0, -1, 0}};
        for (int flyer = 0; flyer < 7; flyer++) {
            for (int what = 0; what <= 4; what++) {
                int known = flyer;
                int asked = what;
                Checks.duePure("flyer(" + flyer + ", " + what + ")", x, c -> c.flyer(known, asked), due[flyer][what]);
            }
        }
    }

    private static void tellsTheTrapezeOfWhoHangs() {
        Checks.sentence("Promise 10: the trapeze from which this one hangs, -1 otherwise");
        Replay x = new Replay();
        for (int i = 0; i < 6; i++) {
            x.rig(50, 10, 2, 99);
        }
        x.spread(-50, 150);
        Scenes.joinMany(x, 6);
        for (int i = 0; i < 6; i++) {
            Checks.due("flyer(i, 1) aside", x.flyer(i, 1), -1);
            x.mount(i, 5 - i);
            Checks.due("flyer(i, 1) who hangs", x.flyer(i, 1), 5 - i);
        }
        x.cue(0, 5, 20, 1);
        x.go(1);
        Checks.due("flyer(5, 1) who flies", x.flyer(5, 1), -1);
        x.go(1);
        Checks.due("flyer(5, 1) in a net", x.flyer(5, 1), -1);
        Checks.due("flyer(5, 0) in a net", x.flyer(5, 0), 3);
        Checks.due("flyer(0, 1) who hangs", x.flyer(0, 1), 5);
    }

    private static void tellsThePlaceOfWhoFlies() {
        Checks.sentence("Promise 10: the place to which this one flies, 0 otherwise");
        Replay x = Scenes.oneHanging();
        x.spread(20, 20);
        Checks.due("flyer(0, 2) who hangs", x.flyer(0, 2), 0);
        x.cue(0, 0, -20, 2);
        x.cue(9, 0, 20, 3);
        x.go(1);
        Checks.due("flyer(0, 2) who flies", x.flyer(0, 2), 20);
        x.go(1);
        Checks.due("flyer(0, 2) who flies", x.flyer(0, 2), 20);
        x.go(1);
        Checks.due("flyer(0, 2) in a net", x.flyer(0, 2), 0);
        x.mount(0, 0);
        Checks.due("flyer(0, 2) who hangs again", x.flyer(0, 2), 0);
        x.go(7);
        Checks.due("flyer(0, 2) who flies again", x.flyer(0, 2), 65);
        x.go(3);
        Checks.due("flyer(0, 2) who is hurt", x.flyer(0, 2), 0);
        Replay caught = Scenes.oneHanging();
        caught.cue(0, 0, 20, 4);
        caught.go(5);
        Checks.due("flyer(0, 2) who was caught", caught.flyer(0, 2), 0);
    }

    private static void tellsInHowManyBeats() {
        Checks.sentence("Promise 10: in how many beats (0: in the one that is next), -1 otherwise");
        for (int time = 1; time <= 6; time++) {
            Replay x = Scenes.oneHanging();
            Checks.due("flyer(0, 3) who hangs", x.flyer(0, 3), -1);
            x.cue(0, 0, 20, time);
            for (int left = time - 1; left >= 0; left--) {
                x.go(1);
                Checks.due("flyer(0, 3) who flies", x.flyer(0, 3), left);
            }
            x.go(1);
            Checks.due("flyer(0, 3) who has come", x.flyer(0, 3), -1);
            x.go(1);
            Checks.due("flyer(0, 3) who has come", x.flyer(0, 3), -1);
        }
    }

    private static void tellsHowOftenCaught() {
        Checks.sentence("Promise 10: how often this one was caught in all");
        Replay x = new Replay();
        x.rig(51, 1, 10, 99);
        x.spread(-50, 150);
        x.join();
        x.mount(0, 0);
        Checks.due("flyer(0, 4)", x.flyer(0, 4), 0);
        for (int i = 0; i < 10; i++) {
            x.cue(2 * i, 0, 0, 1);
            x.go(1);
            Checks.due("flyer(0, 4) in flight", x.flyer(0, 4), i);
            x.go(1);
            Checks.due("flyer(0, 4) when caught", x.flyer(0, 4), i + 1);
        }
        x.cue(20, 0, 20, 1);
        x.go(2);
        Checks.dueFlyer(x, 0, 3, -1, 0, -1, 10);
    }

    private static void asksCuesThatThereAre() {
        Checks.sentence("Promise 11: Throws IndexOutOfBoundsException if there is no such cue");
        Replay x = new Replay();
        x.join();
        for (int many = 0; many <= 20; many++) {
            for (int number : Scenes.outside(0, many - 1)) {
                for (int what = -1; what <= 5; what++) {
                    int asked = what;
                    Checks.refuses("called", Scenes.BAD_INDEX, x, c -> c.called(number, asked));
                }
            }
            for (int number = 0; number < many; number++) {
                Checks.dueCalled(x, number, 7 * number, 0, number - 9, 1 + number % 6, 0);
            }
            if (many < 20) {
                x.cue(7 * many, 0, many - 9, 1 + many % 6);
            }
        }
    }

    private static void asksOfACueWhatThereIs() {
        Checks.sentence("Promise 11: Throws IndexOutOfBoundsException if .. what is not 0 to 4");
        Replay x = Scenes.busy();
        for (int cue = 0; cue < 5; cue++) {
            int known = cue;
            for (int what : Scenes.outside(0, 4)) {
                Checks.refuses("called", Scenes.BAD_INDEX, x, c -> c.called(known, what));
            }
        }
        int[][] due = {{0, 3, 9, 5, 1}, {1, 5, 20, 1, 1}, {1, 6, 0, 1, 2}, {3, 1, -4, 2, 0}, {9999, 6, 20, 6, 0}};
        for (int cue = 0; cue < 5; cue++) {
            for (int what = 0; what <= 4; what++) {
                int known = cue;
                int asked = what;
                Checks.duePure("called(" + cue + ", " + what + ")", x, c -> c.called(known, asked), due[cue][what]);
            }
        }
    }

    private static void countsWhatThereIs() {
        Checks.sentence("Promise 12: Throws IndexOutOfBoundsException if what is not 0 to 8");
        Replay[] all = {new Replay(), Scenes.busy(), Scenes.full()};
        int[][] due = {{0, 0, 0, 0, 0, 0, 0, 0, 0}, {3, 3, 2, 7, 3, 1, 1, 1, 2}, {0, 6, 6, 8, 8, 0, 0, 0, 20}};
        for (int i = 0; i < all.length; i++) {
            for (int what : Scenes.outside(0, 8)) {
                Checks.refuses("count", Scenes.BAD_INDEX, all[i], c -> c.count(what));
            }
            for (int what = 0; what <= 8; what++) {
                int asked = what;
                Checks.duePure("count(" + what + ")", all[i], c -> c.count(asked), due[i][what]);
            }
        }
    }

    /** Eight who are all in the same state are counted there, and nowhere else. */
    private static void countsAllEight() {
        Checks.sentence("Promise 12: those who hang, those who fly, those in nets, those who are hurt: none, and all");
        Replay x = new Replay();
        for (int i = 0; i < 4; i++) {
            x.rig(20 + i, 1, 10, 99);
        }
        x.spread(60, 60);
        Scenes.joinMany(x, 8);
        Checks.dueCounts(x, 0, 4, 4, 8, 0, 0, 0, 0, 0);
        for (int i = 0; i < 8; i++) {
            x.mount(i, i / 2);
            x.cue(0, i, 10, 1);
        }
        Checks.dueCounts(x, 0, 4, 4, 8, 8, 0, 0, 0, 8);
        x.go(1);
        Checks.dueCounts(x, 1, 4, 4, 8, 0, 8, 0, 0, 0);
        x.go(1);
        Checks.dueCounts(x, 2, 4, 4, 8, 0, 0, 0, 8, 0);
        Replay y = new Replay();
        for (int i = 0; i < 4; i++) {
            y.rig(20, 10, 10, 1);
        }
        y.spread(10, 10);
        Scenes.joinMany(y, 8);
        for (int i = 0; i < 8; i++) {
            y.mount(i, i / 2);
        }
        y.go(1);
        Checks.dueCounts(y, 1, 4, 0, 8, 0, 0, 8, 0, 0);
    }

    private static void placesOfTrapezesThatThereAre() {
        Checks.sentence("Promise 13: Throws IndexOutOfBoundsException if there is no such trapeze");
        Replay x = new Replay();
        for (int many = 0; many <= 6; many++) {
            for (int number : Scenes.outside(0, many - 1)) {
                for (int beats : new int[] {0, 500, -1, 501, Scenes.LOWEST, Scenes.HIGHEST}) {
                    Checks.refuses("place", Scenes.BAD_INDEX, x, c -> c.place(number, beats));
                }
            }
            for (int number = 0; number < many; number++) {
                Checks.due("place", x.place(number, 0), 9 * number + 1);
            }
            if (many < 6) {
                x.rig(10 * many + 2, many + 1, many, 9);
            }
        }
    }

    private static void placesBehind0To500() {
        Checks.sentence("Promise 13: Throws IllegalArgumentException if beats is not 0 to 500");
        Replay x = Scenes.busy();
        for (int trapeze = 0; trapeze < 3; trapeze++) {
            int known = trapeze;
            for (int beats : Scenes.outside(0, 500)) {
                Checks.refuses("place", Scenes.BAD_ARGUMENT, x, c -> c.place(known, beats));
            }
        }
        // In beat 3 now: 503 is 7 more than 62 * 8, 502 is 6 more.
        Checks.duePure("place(0, 0)", x, c -> c.place(0, 0), 55);
        Checks.duePure("place(0, 1)", x, c -> c.place(0, 1), 60);
        Checks.duePure("place(0, 499)", x, c -> c.place(0, 499), 50);
        Checks.duePure("place(0, 500)", x, c -> c.place(0, 500), 45);
    }

    private static void placesOfABrokenOne() {
        Checks.sentence("Promise 13: Returns its place behind so many beats .. (also if it is broken)");
        Replay x = Scenes.busy();
        Checks.due("trapeze(1, 5)", x.trapeze(1, 5), 0);
        Checks.duePlaces(x, 1, 10, 5, 10, 15, 10, 5);
        Checks.due("place(1, 499)", x.place(1, 499), 15);
        Checks.due("place(1, 500)", x.place(1, 500), 10);
        x.go(1);
        Checks.due("trapeze(1, 6)", x.trapeze(1, 6), 5);
        x.mend(1);
        Checks.duePlaces(x, 1, 5, 10, 15, 10, 5);
    }

    private static void placesAreThoseToCome() {
        Checks.sentence("Promise 13: Returns its place behind so many beats, if its counterweight is not set");
        for (int weight = 0; weight <= 10; weight++) {
            Replay x = new Replay();
            x.rig(50, 20, weight, 9);
            x.go(7);
            for (int beats = 0; beats <= 50; beats++) {
                int told = x.place(0, beats);
                CircusLines later = x.fresh();
                if (beats > 0) {
                    later.go(beats);
                }
                Checks.due("trapeze(0, 6) behind " + beats + " beats", later.trapeze(0, 6), told);
            }
        }
    }

    private static void netsAreWhereTheyAreSpread() {
        Checks.sentence("Promise 14: Returns whether a net is spread there");
        Replay x = new Replay();
        for (int place : new int[] {-51, -50, 0, 150, 151, Scenes.LOWEST, Scenes.HIGHEST}) {
            Checks.due("netAt(" + place + ") without a net", x.netAt(place), false);
        }
        x.spread(-50, 150);
        for (int place : new int[] {-50, -49, -1, 0, 1, 149, 150}) {
            Checks.due("netAt(" + place + ")", x.netAt(place), true);
        }
        for (int place : new int[] {-52, -51, 151, 152, Scenes.LOWEST, Scenes.HIGHEST}) {
            Checks.due("netAt(" + place + ")", x.netAt(place), false);
        }
        Replay y = new Replay();
        y.spread(7, 9);
        y.spread(9, 11);
        y.spread(8, 8);
        for (int place = 0; place <= 20; place++) {
            int asked = place;
            Checks.duePure("netAt(" + place + ")", y, c -> c.netAt(asked) ? 1 : 0, place >= 7 && place <= 11 ? 1 : 0);
        }
    }

    public static void main(String[] args) {
        asksTrapezesThatThereAre();
        asksOfATrapezeWhatThereIs();
        asksFlyersThatThereAre();
        asksOfAFlyerWhatThereIs();
        tellsTheTrapezeOfWhoHangs();
        tellsThePlaceOfWhoFlies();
        tellsInHowManyBeats();
        tellsHowOftenCaught();
        asksCuesThatThereAre();
        asksOfACueWhatThereIs();
        countsWhatThereIs();
        countsAllEight();
        placesOfTrapezesThatThereAre();
        placesBehind0To500();
        placesOfABrokenOne();
        placesAreThoseToCome();
        netsAreWhereTheyAreSpread();
        Checks.end();
    }
}

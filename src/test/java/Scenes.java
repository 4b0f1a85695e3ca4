/** Rings that more than one test begins with, and the wrong numbers that each kind of argument is asked with. */
final class Scenes {
    static final Class<IndexOutOfBoundsException> BAD_INDEX = IndexOutOfBoundsException.class;
    static final Class<IllegalArgumentException> BAD_ARGUMENT = IllegalArgumentException.class;
    static final Class<IllegalStateException> BAD_STATE = IllegalStateException.class;
    static final int LOWEST = Integer.MIN_VALUE;
    static final int HIGHEST = Integer.MAX_VALUE;

    private Scenes() {
    }

    /** The numbers just outside of a range, and those as far out as can be. */
    static int[] outside(int least, int most) {
        return new int[] {least - 1, most + 1, LOWEST, HIGHEST};
    }

    /** A trapeze that is at 40, 45, 50, 55, 60, 55, 50, 45 and 40 again, and a flyer who hangs from it. */
    static Replay oneHanging() {
        Replay x = new Replay();
        x.rig(50, 10, 2, 5);
        x.join();
        x.mount(0, 0);
        return x;
    }

    static void joinMany(Replay x, int many) {
        for (int i = 0; i < many; i++) {
            x.join();
        }
    }

    /**
     * In beat 3: trapeze 0 (whole, at 55) with flyer 0, trapeze 1 (broken), trapeze 2 (whole) with flyers 1 and 2;
     * flyer 3 flies, 4 is in a net, 5 is hurt, 6 stands aside; cues 0 and 1 are done, 2 is missed, 3 and 4 are open.
     */
    static Replay busy() {
        Replay x = new Replay();
        x.rig(50, 10, 2, 5);
        x.rig(10, 5, 0, 1);
        x.rig(90, 8, 4, 50);
        joinMany(x, 7);
        x.spread(5, 5);
        x.mount(0, 0);
        x.mount(3, 0);
        x.mount(1, 2);
        x.mount(2, 2);
        x.mount(4, 1);
        x.mount(5, 1);
        x.cue(0, 3, 9, 5);
        x.go(1);
        // Both of trapeze 1 are in the net now: one of them goes up once more, and flies to where nothing is.
        x.mount(5, 0);
        x.cue(1, 5, 20, 1);
        x.cue(1, 6, 0, 1);
        x.cue(3, 1, -4, 2);
        x.cue(9999, 6, 20, 6);
        x.go(2);
        return x;
    }

    /** Six trapezes, eight flyers, twenty cues and three nets. */
    static Replay full() {
        Replay x = new Replay();
        for (int i = 0; i < 6; i++) {
            x.rig(20 + 10 * i, 5 + i, i, 3 + i);
        }
        joinMany(x, 8);
        for (int i = 0; i < 8; i++) {
            x.mount(i, i / 2);
        }
        for (int i = 0; i < 20; i++) {
            x.cue(i / 2, i % 8, 3 * i - 20 > 20 ? 20 : 3 * i - 20, 1 + i % 6);
        }
        x.spread(-50, 10);
        x.spread(30, 60);
        x.spread(100, 150);
        return x;
    }
}

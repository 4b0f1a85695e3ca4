/** The rigging of a circus: trapezes that swing, flyers who let go on cues, nets, and ropes that wear. */
public final class CircusLines {
    private static final int MOST_TRAPEZES = 6;
    private static final int MOST_FLYERS = 8;
    private static final int MOST_CUES = 20;
    private static final int MOST_NETS = 3;
    private static final int MOST_ON_A_TRAPEZE = 2;

    private static final int LAST_MIDDLE = 99;
    private static final int MOST_WIDTH = 20;
    private static final int MOST_WEIGHT = 10;
    private static final int MOST_STRENGTH = 99;
    private static final int FIRST_NET_PLACE = -50;
    private static final int LAST_NET_PLACE = 150;
    private static final int MOST_REACH = 20;
    private static final int MOST_TIME = 6;
    private static final int LAST_CUE_BEAT = 9999;
    private static final int MOST_BEATS_TO_TELL = 500;
    private static final int MOST_BEATS_TO_GO = 200;
    private static final int MOST_BEATS_TO_MEET = 200;
    private static final int CATCHING_DISTANCE = 2;

    private static final int NONE = -1;

    private static final int LAST_OF_TRAPEZE = 7;
    private static final int LAST_OF_FLYER = 4;
    private static final int LAST_OF_CUE = 4;
    private static final int LAST_OF_COUNT = 8;
    private static final int FIRST_FORESEEN = 4;

    // What flyer() and called() tell of a state, so the numbers are the document's.
    private static final int ASIDE = 0;
    private static final int HANGING = 1;
    private static final int FLYING = 2;
    private static final int IN_NET = 3;
    private static final int HURT = 4;

    private static final int OPEN = 0;
    private static final int DONE = 1;
    private static final int MISSED = 2;

    // A slot whose number is not given out yet holds null: the null test is the test that there is such a one.
    private final Trapeze[] trapezes;
    private final Flyer[] flyers;
    private final Cue[] cues;
    private final Net[] nets;
    private int trapezeCount;
    private int flyerCount;
    private int cueCount;
    private int netCount;
    private int beat;

    public CircusLines() {
        trapezes = new Trapeze[MOST_TRAPEZES];
        flyers = new Flyer[MOST_FLYERS];
        cues = new Cue[MOST_CUES];
        nets = new Net[MOST_NETS];
    }

    // ---- rigging

    public int rig(int middle, int width, int weight, int strength)
            throws IllegalArgumentException, IllegalStateException {
        if (!isWithin(middle, 0, LAST_MIDDLE) || !isWithin(width, 1, MOST_WIDTH)
                || !isWithin(weight, 0, MOST_WEIGHT) || !isWithin(strength, 1, MOST_STRENGTH)) {
            throw new IllegalArgumentException("no such trapeze can be made");
        }
        int number = trapezeCount;
        if (!isWithin(number, 0, trapezes.length - 1)) {
            throw new IllegalStateException("there are 6 trapezes");
        }
        trapezes[number] = new Trapeze(middle, width, weight, strength, beat);
        trapezeCount = number + 1;
        return number;
    }

    public int weigh(int trapeze, int weight)
            throws IndexOutOfBoundsException, IllegalArgumentException, IllegalStateException {
        Trapeze weighed = trapezeNumbered(trapeze);
        if (weighed == null) {
            throw new IndexOutOfBoundsException("no such trapeze");
        }
        if (!isWithin(weight, 0, MOST_WEIGHT)) {
            throw new IllegalArgumentException("weight is not 0 to 10");
        }
        if (!weighed.whole) {
            throw new IllegalStateException("the trapeze is broken");
        }
        int before = weighed.weight;
        weighed.setWeight(weight, beat);
        return before;
    }

    public int mend(int trapeze) throws IndexOutOfBoundsException {
        Trapeze mended = trapezeNumbered(trapeze);
        if (mended == null) {
            throw new IndexOutOfBoundsException("no such trapeze");
        }
        int worn = mended.worn;
        mended.renewRope();
        return worn;
    }

    public int spread(int from, int to) throws IllegalArgumentException, IllegalStateException {
        if (!isWithin(from, FIRST_NET_PLACE, LAST_NET_PLACE) || !isWithin(to, FIRST_NET_PLACE, LAST_NET_PLACE)
                || from > to) {
            throw new IllegalArgumentException("no net can be spread so");
        }
        int number = netCount;
        if (!isWithin(number, 0, nets.length - 1)) {
            throw new IllegalStateException("there are 3 nets");
        }
        nets[number] = new Net(from, to);
        netCount = number + 1;
        return netCount;
    }

    // ---- flyers and cues

    public int join() throws IllegalStateException {
        int number = flyerCount;
        if (!isWithin(number, 0, flyers.length - 1)) {
            throw new IllegalStateException("there are 8 flyers");
        }
        flyers[number] = new Flyer();
        flyerCount = number + 1;
        return number;
    }

    public int mount(int flyer, int trapeze) throws IndexOutOfBoundsException, IllegalStateException {
        Flyer climber = flyerNumbered(flyer);
        Trapeze mounted = trapezeNumbered(trapeze);
        if (climber == null || mounted == null) {
            throw new IndexOutOfBoundsException("no such flyer or trapeze");
        }
        int hanging = hangersOf(trapeze);
        if (!climber.canMount() || !mounted.whole || hanging >= MOST_ON_A_TRAPEZE) {
            throw new IllegalStateException("the flyer can't mount, or the trapeze is broken or full");
        }
        climber.hangFrom(trapeze);
        return hanging + 1;
    }

    public int cue(int beat, int flyer, int reach, int time)
            throws IndexOutOfBoundsException, IllegalArgumentException, IllegalStateException {
        if (flyerNumbered(flyer) == null) {
            throw new IndexOutOfBoundsException("no such flyer");
        }
        if (!isWithin(reach, -MOST_REACH, MOST_REACH) || !isWithin(time, 1, MOST_TIME) || beat > LAST_CUE_BEAT) {
            throw new IllegalArgumentException("no cue can be given so");
        }
        int number = cueCount;
        if (beat < this.beat || beat < 0 || !isWithin(number, 0, cues.length - 1)) {
            throw new IllegalStateException("the beat has gone by, or there are 20 cues");
        }
        cues[number] = new Cue(beat, flyer, reach, time);
        cueCount = number + 1;
        return number;
    }

    // ---- what is there

    public int trapeze(int trapeze, int what) throws IndexOutOfBoundsException {
        Trapeze asked = trapezeNumbered(trapeze);
        if (asked == null || !isWithin(what, 0, LAST_OF_TRAPEZE)) {
            throw new IndexOutOfBoundsException("no such trapeze, or what is not 0 to 7");
        }
        return ofTrapeze(asked, trapeze, what);
    }

    public int flyer(int flyer, int what) throws IndexOutOfBoundsException {
        Flyer asked = flyerNumbered(flyer);
        if (asked == null || !isWithin(what, 0, LAST_OF_FLYER)) {
            throw new IndexOutOfBoundsException("no such flyer, or what is not 0 to 4");
        }
        return ofFlyer(asked, what);
    }

    public int called(int cue, int what) throws IndexOutOfBoundsException {
        Cue asked = isWithin(cue, 0, cues.length - 1) ? cues[cue] : null;
        if (asked == null || !isWithin(what, 0, LAST_OF_CUE)) {
            throw new IndexOutOfBoundsException("no such cue, or what is not 0 to 4");
        }
        return ofCue(asked, what);
    }

    public int count(int what) throws IndexOutOfBoundsException {
        if (!isWithin(what, 0, LAST_OF_COUNT)) {
            throw new IndexOutOfBoundsException("what is not 0 to 8");
        }
        return tally(what);
    }

    public int place(int trapeze, int beats) throws IndexOutOfBoundsException, IllegalArgumentException {
        Trapeze asked = trapezeNumbered(trapeze);
        if (asked == null) {
            throw new IndexOutOfBoundsException("no such trapeze");
        }
        if (!isWithin(beats, 0, MOST_BEATS_TO_TELL)) {
            throw new IllegalArgumentException("beats is not 0 to 500");
        }
        return asked.placeIn(beat + beats);
    }

    public boolean netAt(int place) {
        return isNetSpreadAt(place);
    }

    // ---- beats and what would be

    public int go(int beats) throws IllegalArgumentException {
        if (!isWithin(beats, 1, MOST_BEATS_TO_GO)) {
            throw new IllegalArgumentException("beats is not 1 to 200");
        }
        return passBeats(beats);
    }

    public int meets(int a, int b) throws IndexOutOfBoundsException {
        Trapeze one = trapezeNumbered(a);
        Trapeze other = trapezeNumbered(b);
        if (one == null || other == null) {
            throw new IndexOutOfBoundsException("no such trapeze");
        }
        if (!one.whole || !other.whole) {
            return NONE;
        }
        for (int later = 0; later <= MOST_BEATS_TO_MEET; later++) {
            if (isNear(one.placeIn(beat + later), other.placeIn(beat + later))) {
                return later;
            }
        }
        return NONE;
    }

    public int flight(int flyer, int trapeze) throws IndexOutOfBoundsException {
        Flyer leaper = flyerNumbered(flyer);
        Trapeze goal = trapezeNumbered(trapeze);
        if (leaper == null || goal == null) {
            throw new IndexOutOfBoundsException("no such flyer or trapeze");
        }
        Trapeze start = trapezeNumbered(leaper.trapezeNumber);
        if (start == null) {
            return NONE;
        }
        int from = start.placeIn(beat);
        for (int time = 1; time <= MOST_TIME; time++) {
            int to = goal.placeIn(beat + time);
            for (int reach = -MOST_REACH; reach <= MOST_REACH; reach++) {
                if (isNear(from + reach, to)) {
                    return 100 * time + reach + 20;
                }
            }
        }
        return NONE;
    }

    public int advise(int a, int b) throws IndexOutOfBoundsException, IllegalArgumentException {
        Trapeze weighed = trapezeNumbered(a);
        Trapeze other = trapezeNumbered(b);
        if (weighed == null || other == null) {
            throw new IndexOutOfBoundsException("no such trapeze");
        }
        if (a == b) {
            throw new IllegalArgumentException("both are the same trapeze");
        }
        if (!weighed.whole || !other.whole) {
            return NONE;
        }
        // Beats outside, counterweights inside: so the first one found is the soonest, and of several the least.
        for (int later = 0; later <= MOST_BEATS_TO_MEET; later++) {
            int goal = other.placeIn(beat + later);
            for (int weight = 0; weight <= MOST_WEIGHT; weight++) {
                if (isNear(weighed.placeSinceLeftEnd(later, weight), goal)) {
                    return weight;
                }
            }
        }
        return NONE;
    }

    public int foresee(int beats, int what) throws IllegalArgumentException, IndexOutOfBoundsException {
        if (!isWithin(beats, 1, MOST_BEATS_TO_GO)) {
            throw new IllegalArgumentException("beats is not 1 to 200");
        }
        if (!isWithin(what, FIRST_FORESEEN, LAST_OF_COUNT)) {
            throw new IndexOutOfBoundsException("what is not 4 to 8");
        }
        // The act itself is played and taken back: a copy at each call would fill the room that a run has.
        int now = beat;
        keepAct();
        passBeats(beats);
        int told = tally(what);
        takeActBack();
        beat = now;
        return told;
    }

    public double mean() {
        int caught = 0;
        for (Flyer one : flyers) {
            if (one != null) {
                caught += one.caught;
            }
        }
        return flyerCount > 0 ? (double) caught / (double) flyerCount : 0.0;
    }

    public long digest() {
        long d = 1061;
        for (int what = 0; what <= LAST_OF_COUNT; what++) {
            d = d * 31 + tally(what);
        }
        d = withTrapezes(d);
        d = withFlyers(d);
        d = withCues(d);
        for (Net net : nets) {
            if (net != null) {
                d = (d * 31 + net.from) * 31 + net.to;
            }
        }
        return d;
    }

    // ---- looking things up

    private static boolean isWithin(int number, int least, int most) {
        return number >= least && number <= most;
    }

    private static boolean isNear(int place, int other) {
        return place - other <= CATCHING_DISTANCE && other - place <= CATCHING_DISTANCE;
    }

    private Trapeze trapezeNumbered(int number) {
        return isWithin(number, 0, trapezes.length - 1) ? trapezes[number] : null;
    }

    private Flyer flyerNumbered(int number) {
        return isWithin(number, 0, flyers.length - 1) ? flyers[number] : null;
    }

    private int hangersOf(int trapezeNumber) {
        int hanging = 0;
        for (Flyer one : flyers) {
            if (one != null && one.hangsFrom(trapezeNumber)) {
                hanging++;
            }
        }
        return hanging;
    }

    private boolean isNetSpreadAt(int place) {
        for (Net net : nets) {
            if (net != null && isWithin(place, net.from, net.to)) {
                return true;
            }
        }
        return false;
    }

    // ---- telling

    private int ofTrapeze(Trapeze asked, int number, int what) {
        switch (what) {
            case 0: return asked.middle;
            case 1: return asked.width;
            case 2: return asked.weight;
            case 3: return asked.strength;
            case 4: return asked.worn;
            case 5: return asked.whole ? 1 : 0;
            case 6: return asked.placeIn(beat);
            default: return hangersOf(number);
        }
    }

    private int ofFlyer(Flyer asked, int what) {
        boolean flies = asked.state == FLYING;
        switch (what) {
            case 0: return asked.state;
            case 1: return asked.trapezeNumber;
            case 2: return flies ? asked.goal : 0;
            case 3: return flies ? asked.landingBeat - beat : NONE;
            default: return asked.caught;
        }
    }

    private static int ofCue(Cue asked, int what) {
        switch (what) {
            case 0: return asked.beat;
            case 1: return asked.flyerNumber;
            case 2: return asked.reach;
            case 3: return asked.time;
            default: return asked.state;
        }
    }

    private int tally(int what) {
        switch (what) {
            case 0: return beat;
            case 1: return trapezeCount;
            case 2: return wholeTrapezes();
            case 3: return flyerCount;
            case 4: return flyersWhoAre(HANGING);
            case 5: return flyersWhoAre(FLYING);
            case 6: return flyersWhoAre(IN_NET);
            case 7: return flyersWhoAre(HURT);
            default: return openCues();
        }
    }

    private int wholeTrapezes() {
        int whole = 0;
        for (Trapeze one : trapezes) {
            if (one != null && one.whole) {
                whole++;
            }
        }
        return whole;
    }

    private int flyersWhoAre(int state) {
        int many = 0;
        for (Flyer one : flyers) {
            if (one != null && one.state == state) {
                many++;
            }
        }
        return many;
    }

    private int openCues() {
        int open = 0;
        for (Cue one : cues) {
            if (one != null && one.state == OPEN) {
                open++;
            }
        }
        return open;
    }

    private long withTrapezes(long start) {
        long d = start;
        for (int number = 0; number < trapezes.length; number++) {
            Trapeze one = trapezes[number];
            for (int what = 0; one != null && what <= LAST_OF_TRAPEZE; what++) {
                d = d * 31 + ofTrapeze(one, number, what);
            }
        }
        return d;
    }

    private long withFlyers(long start) {
        long d = start;
        for (Flyer one : flyers) {
            for (int what = 0; one != null && what <= LAST_OF_FLYER; what++) {
                d = d * 31 + ofFlyer(one, what);
            }
        }
        return d;
    }

    private long withCues(long start) {
        long d = start;
        for (Cue one : cues) {
            for (int what = 0; one != null && what <= LAST_OF_CUE; what++) {
                d = d * 31 + ofCue(one, what);
            }
        }
        return d;
    }

    // ---- a beat

    private int passBeats(int beats) {
        int catches = 0;
        for (int gone = 0; gone < beats; gone++) {
            callCues();
            catches += endFlights();
            wearRopes();
            beat++;
        }
        return catches;
    }

    private void callCues() {
        for (Cue due : cues) {
            if (due != null && due.beat == beat) {
                due.state = letGo(due) ? DONE : MISSED;
            }
        }
    }

    private boolean letGo(Cue due) {
        Flyer leaper = flyerNumbered(due.flyerNumber);
        if (leaper == null) {
            return false;
        }
        Trapeze left = trapezeNumbered(leaper.trapezeNumber);
        if (left == null) {
            return false;
        }
        leaper.flyTo(left.placeIn(beat) + due.reach, beat + due.time);
        return true;
    }

    private int endFlights() {
        int catches = 0;
        for (Flyer coming : flyers) {
            if (coming != null && coming.comesIn(beat)) {
                int catcher = catcherAt(coming.goal);
                if (catcher == NONE) {
                    coming.fall(isNetSpreadAt(coming.goal));
                } else {
                    coming.hangFrom(catcher);
                    coming.caught++;
                    catches++;
                }
            }
        }
        return catches;
    }

    private int catcherAt(int place) {
        for (int number = 0; number < trapezes.length; number++) {
            Trapeze one = trapezes[number];
            if (one != null && one.whole && isNear(one.placeIn(beat), place)
                    && hangersOf(number) < MOST_ON_A_TRAPEZE) {
                return number;
            }
        }
        return NONE;
    }

    private void wearRopes() {
        for (int number = 0; number < trapezes.length; number++) {
            Trapeze one = trapezes[number];
            if (one != null && one.whole && one.isAtLeftEndIn(beat)) {
                one.wear(hangersOf(number));
                if (!one.whole) {
                    dropFrom(number, one.placeIn(beat));
                }
            }
        }
    }

    private void dropFrom(int trapezeNumber, int place) {
        boolean intoNet = isNetSpreadAt(place);
        for (Flyer one : flyers) {
            if (one != null && one.hangsFrom(trapezeNumber)) {
                one.fall(intoNet);
            }
        }
    }

    // ---- playing the act and taking it back

    private void keepAct() {
        for (Trapeze one : trapezes) {
            if (one != null) {
                one.keep();
            }
        }
        for (Flyer one : flyers) {
            if (one != null) {
                one.keep();
            }
        }
        for (Cue one : cues) {
            if (one != null) {
                one.keep();
            }
        }
    }

    private void takeActBack() {
        for (Trapeze one : trapezes) {
            if (one != null) {
                one.takeBack();
            }
        }
        for (Flyer one : flyers) {
            if (one != null) {
                one.takeBack();
            }
        }
        for (Cue one : cues) {
            if (one != null) {
                one.takeBack();
            }
        }
    }

    private static final class Trapeze {
        final int middle;
        final int width;
        final int strength;
        int weight;
        int leftEndBeat;
        int worn;
        boolean whole;
        // Beats change no more than these two, so no more is kept.
        private int keptWorn;
        private boolean keptWhole;

        Trapeze(int middle, int width, int weight, int strength, int beat) {
            this.middle = middle;
            this.width = width;
            this.weight = weight;
            this.strength = strength;
            this.leftEndBeat = beat;
            this.whole = true;
        }

        void setWeight(int weight, int beat) {
            this.weight = weight;
            this.leftEndBeat = beat;
        }

        void renewRope() {
            worn = 0;
            whole = true;
        }

        void wear(int hanging) {
            worn += hanging;
            whole = worn <= strength;
        }

        int placeIn(int beat) {
            return placeSinceLeftEnd(beat - leftEndBeat, weight);
        }

        boolean isAtLeftEndIn(int beat) {
            return (beat - leftEndBeat) % (2 * halfSwing(weight)) == 0;
        }

        int placeSinceLeftEnd(int beats, int weight) {
            int h = halfSwing(weight);
            int p = beats % (2 * h);
            return p <= h ? middle - width + 2 * width * p / h : middle + width - 2 * width * (p - h) / h;
        }

        // Never less than 2, so that it and its double can divide, whatever the weight is.
        private static int halfSwing(int weight) {
            return Math.max(2, 2 + weight);
        }

        void keep() {
            keptWorn = worn;
            keptWhole = whole;
        }

        void takeBack() {
            worn = keptWorn;
            whole = keptWhole;
        }
    }

    private static final class Flyer {
        int state = ASIDE;
        // NONE unless this one hangs: whoever has a trapeze's number here hangs from it.
        int trapezeNumber = NONE;
        int goal;
        int landingBeat;
        int caught;
        private int keptState;
        private int keptTrapezeNumber;
        private int keptGoal;
        private int keptLandingBeat;
        private int keptCaught;

        boolean canMount() {
            return state == ASIDE || state == IN_NET;
        }

        boolean hangsFrom(int number) {
            return state == HANGING && trapezeNumber == number;
        }

        boolean comesIn(int beat) {
            return state == FLYING && landingBeat == beat;
        }

        void hangFrom(int number) {
            state = HANGING;
            trapezeNumber = number;
        }

        void flyTo(int place, int beat) {
            state = FLYING;
            trapezeNumber = NONE;
            goal = place;
            landingBeat = beat;
        }

        void fall(boolean intoNet) {
            state = intoNet ? IN_NET : HURT;
            trapezeNumber = NONE;
        }

        void keep() {
            keptState = state;
            keptTrapezeNumber = trapezeNumber;
            keptGoal = goal;
            keptLandingBeat = landingBeat;
            keptCaught = caught;
        }

        void takeBack() {
            state = keptState;
            trapezeNumber = keptTrapezeNumber;
            goal = keptGoal;
            landingBeat = keptLandingBeat;
            caught = keptCaught;
        }
    }

    private static final class Cue {
        final int beat;
        final int flyerNumber;
        final int reach;
        final int time;
        int state = OPEN;
        private int keptState;

        Cue(int beat, int flyerNumber, int reach, int time) {
            this.beat = beat;
            this.flyerNumber = flyerNumber;
            this.reach = reach;
            this.time = time;
        }

        void keep() {
            keptState = state;
        }

        void takeBack() {
            state = keptState;
        }
    }

    private static final class Net {
        final int from;
        final int to;

        Net(int from, int to) {
            this.from = from;
            this.to = to;
        }
    }
}

import java.util.ArrayList;
import java.util.List;
import java.util.function.Consumer;
import java.util.function.ToIntFunction;

/**
 * Asks each question of a new object, on which all changes so far are made again: so no object comes near its
 * 512th call, and what one question does to its object can't be seen by the next.
 */
final class Replay {
    private final List<Consumer<CircusLines>> changes = new ArrayList<>();

    CircusLines fresh() {
        CircusLines made = new CircusLines();
        for (Consumer<CircusLines> change : changes) {
            change.accept(made);
        }
        return made;
    }

    private int change(ToIntFunction<CircusLines> call) {
        int answer = call.applyAsInt(fresh());
        changes.add(call::applyAsInt);
        return answer;
    }

    int rig(int middle, int width, int weight, int strength) {
        return change(c -> c.rig(middle, width, weight, strength));
    }

    int weigh(int trapeze, int weight) {
        return change(c -> c.weigh(trapeze, weight));
    }

    int mend(int trapeze) {
        return change(c -> c.mend(trapeze));
    }

    int spread(int from, int to) {
        return change(c -> c.spread(from, to));
    }

    int join() {
        return change(c -> c.join());
    }

    int mount(int flyer, int trapeze) {
        return change(c -> c.mount(flyer, trapeze));
    }

    int cue(int beat, int flyer, int reach, int time) {
        return change(c -> c.cue(beat, flyer, reach, time));
    }

    int go(int beats) {
        return change(c -> c.go(beats));
    }

    int trapeze(int trapeze, int what) {
        return fresh().trapeze(trapeze, what);
    }

    int flyer(int flyer, int what) {
        return fresh().flyer(flyer, what);
    }

    int called(int cue, int what) {
        return fresh().called(cue, what);
    }

    int count(int what) {
        return fresh().count(what);
    }

    int place(int trapeze, int beats) {
        return fresh().place(trapeze, beats);
    }

    boolean netAt(int place) {
        return fresh().netAt(place);
    }

    int meets(int a, int b) {
        return fresh().meets(a, b);
    }

    int flight(int flyer, int trapeze) {
        return fresh().flight(flyer, trapeze);
    }

    int advise(int a, int b) {
        return fresh().advise(a, b);
    }

    int foresee(int beats, int what) {
        return fresh().foresee(beats, what);
    }

    double mean() {
        return fresh().mean();
    }

    long digest() {
        return fresh().digest();
    }
}

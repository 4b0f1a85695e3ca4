import java.util.ArrayList;
import java.util.List;

/** The document once more, in its plainest form and with no care for room: what ModelTest compares with. */
final class Naive {
    static final class Swing {
        int middle;
        int width;
        int weight;
        int strength;
        int worn;
        boolean whole = true;
        int since;
    }

    static final class Person {
        String does = "aside";
        Swing from;
        int to;
        int left;
        int caught;
    }

    static final class Call {
        int beat;
        Person who;
        int reach;
        int time;
        int state;
    }

    final List<Swing> swings = new ArrayList<>();
    final List<Person> people = new ArrayList<>();
    final List<Call> calls = new ArrayList<>();
    final List<int[]> nets = new ArrayList<>();
    int beat;
    int breaks;
    int netFalls;
    int hurts;

    Naive copy() {
        Naive other = new Naive();
        for (Swing s : swings) {
            Swing t = new Swing();
            t.middle = s.middle;
            t.width = s.width;
            t.weight = s.weight;
            t.strength = s.strength;
            t.worn = s.worn;
            t.whole = s.whole;
            t.since = s.since;
            other.swings.add(t);
        }
        for (Person p : people) {
            Person q = new Person();
            q.does = p.does;
            q.from = p.from == null ? null : other.swings.get(swings.indexOf(p.from));
            q.to = p.to;
            q.left = p.left;
            q.caught = p.caught;
            other.people.add(q);
        }
        for (Call c : calls) {
            Call d = new Call();
            d.beat = c.beat;
            d.who = other.people.get(people.indexOf(c.who));
            d.reach = c.reach;
            d.time = c.time;
            d.state = c.state;
            other.calls.add(d);
        }
        other.nets.addAll(nets);
        other.beat = beat;
        return other;
    }

    private static void index(boolean good) {
        if (!good) {
            throw new IndexOutOfBoundsException();
        }
    }

    private static void argument(boolean good) {
        if (!good) {
            throw new IllegalArgumentException();
        }
    }

    private static void state(boolean good) {
        if (!good) {
            throw new IllegalStateException();
        }
    }

    private static boolean in(int x, int least, int most) {
        return least <= x && x <= most;
    }

    private static int placeOf(Swing s, int since) {
        int h = 2 + s.weight;
        int p = since;
        while (p >= 2 * h) {
            p -= 2 * h;
        }
        if (p <= h) {
            return s.middle - s.width + 2 * s.width * p / h;
        }
        return s.middle + s.width - 2 * s.width * (p - h) / h;
    }

    private long hanging(Swing s) {
        return people.stream().filter(p -> p.from == s).count();
    }

    private long who(String does) {
        return people.stream().filter(p -> p.does.equals(does)).count();
    }

    int rig(int middle, int width, int weight, int strength) {
        argument(in(middle, 0, 99) && in(width, 1, 20) && in(weight, 0, 10) && in(strength, 1, 99));
        state(swings.size() < 6);
        Swing s = new Swing();
        s.middle = middle;
        s.width = width;
        s.weight = weight;
        s.strength = strength;
        swings.add(s);
        return swings.size() - 1;
    }

    int weigh(int trapeze, int weight) {
        index(in(trapeze, 0, swings.size() - 1));
        argument(in(weight, 0, 10));
        Swing s = swings.get(trapeze);
        state(s.whole);
        int before = s.weight;
        s.weight = weight;
        s.since = 0;
        return before;
    }

    int mend(int trapeze) {
        index(in(trapeze, 0, swings.size() - 1));
        Swing s = swings.get(trapeze);
        int worn = s.worn;
        s.worn = 0;
        s.whole = true;
        return worn;
    }

    int spread(int from, int to) {
        argument(in(from, -50, 150) && in(to, -50, 150) && from <= to);
        state(nets.size() < 3);
        nets.add(new int[] {from, to});
        return nets.size();
    }

    int join() {
        state(people.size() < 8);
        people.add(new Person());
        return people.size() - 1;
    }

    int mount(int flyer, int trapeze) {
        index(in(flyer, 0, people.size() - 1) && in(trapeze, 0, swings.size() - 1));
        Person p = people.get(flyer);
        Swing s = swings.get(trapeze);
        state(p.does.equals("aside") || p.does.equals("net"));
        state(s.whole && hanging(s) < 2);
        p.does = "hangs";
        p.from = s;
        return (int) hanging(s);
    }

    int cue(int when, int flyer, int reach, int time) {
        index(in(flyer, 0, people.size() - 1));
        argument(in(reach, -20, 20) && in(time, 1, 6) && when <= 9999);
        state(when >= beat && calls.size() < 20);
        Call c = new Call();
        c.beat = when;
        c.who = people.get(flyer);
        c.reach = reach;
        c.time = time;
        calls.add(c);
        return calls.size() - 1;
    }

    int trapeze(int trapeze, int what) {
        index(in(trapeze, 0, swings.size() - 1) && in(what, 0, 7));
        Swing s = swings.get(trapeze);
        return new int[] {s.middle, s.width, s.weight, s.strength, s.worn, s.whole ? 1 : 0, placeOf(s, s.since),
            (int) hanging(s)}[what];
    }

    int flyer(int flyer, int what) {
        index(in(flyer, 0, people.size() - 1) && in(what, 0, 4));
        Person p = people.get(flyer);
        boolean flies = p.does.equals("flies");
        return new int[] {List.of("aside", "hangs", "flies", "net", "hurt").indexOf(p.does), swings.indexOf(p.from),
            flies ? p.to : 0, flies ? p.left : -1, p.caught}[what];
    }

    int called(int cue, int what) {
        index(in(cue, 0, calls.size() - 1) && in(what, 0, 4));
        Call c = calls.get(cue);
        return new int[] {c.beat, people.indexOf(c.who), c.reach, c.time, c.state}[what];
    }

    int count(int what) {
        index(in(what, 0, 8));
        return new int[] {beat, swings.size(), (int) swings.stream().filter(s -> s.whole).count(), people.size(),
            (int) who("hangs"), (int) who("flies"), (int) who("net"), (int) who("hurt"),
            (int) calls.stream().filter(c -> c.state == 0).count()}[what];
    }

    int place(int trapeze, int beats) {
        index(in(trapeze, 0, swings.size() - 1));
        argument(in(beats, 0, 500));
        Swing s = swings.get(trapeze);
        return placeOf(s, s.since + beats);
    }

    boolean netAt(int place) {
        return nets.stream().anyMatch(n -> in(place, n[0], n[1]));
    }

    private void fall(Person p, int place) {
        p.from = null;
        p.does = netAt(place) ? "net" : "hurt";
        if (netAt(place)) {
            netFalls++;
        } else {
            hurts++;
        }
    }

    private int beatGoes() {
        for (Call c : calls) {
            if (c.beat != beat) {
                continue;
            }
            Person p = c.who;
            if (p.does.equals("hangs")) {
                p.to = placeOf(p.from, p.from.since) + c.reach;
                // Counted down at the end of this beat too.
                p.left = c.time;
                p.does = "flies";
                p.from = null;
                c.state = 1;
            } else {
                c.state = 2;
            }
        }
        int caught = 0;
        for (Person p : people) {
            if (!p.does.equals("flies") || p.left != 0) {
                continue;
            }
            for (Swing s : swings) {
                if (p.from == null && s.whole && hanging(s) < 2 && Math.abs(placeOf(s, s.since) - p.to) <= 2) {
                    p.from = s;
                }
            }
            if (p.from == null) {
                fall(p, p.to);
            } else {
                p.does = "hangs";
                p.caught++;
                caught++;
            }
        }
        for (Swing s : swings) {
            if (s.whole && s.since % (4 + 2 * s.weight) == 0) {
                s.worn += hanging(s);
                if (s.worn > s.strength) {
                    s.whole = false;
                    breaks++;
                    for (Person p : people) {
                        if (p.from == s) {
                            fall(p, placeOf(s, s.since));
                        }
                    }
                }
            }
        }
        beat++;
        for (Swing s : swings) {
            s.since++;
        }
        for (Person p : people) {
            p.left--;
        }
        return caught;
    }

    int go(int beats) {
        argument(in(beats, 1, 200));
        int caught = 0;
        for (int i = 0; i < beats; i++) {
            caught += beatGoes();
        }
        return caught;
    }

    int meets(int a, int b) {
        index(in(a, 0, swings.size() - 1) && in(b, 0, swings.size() - 1));
        if (!swings.get(a).whole || !swings.get(b).whole) {
            return -1;
        }
        for (int n = 0; n <= 200; n++) {
            if (Math.abs(place(a, n) - place(b, n)) <= 2) {
                return n;
            }
        }
        return -1;
    }

    int flight(int flyer, int trapeze) {
        index(in(flyer, 0, people.size() - 1) && in(trapeze, 0, swings.size() - 1));
        Person p = people.get(flyer);
        if (p.from == null) {
            return -1;
        }
        for (int number = 100; number <= 640; number++) {
            int reach = number % 100 - 20;
            if (reach <= 20 && Math.abs(placeOf(p.from, p.from.since) + reach - place(trapeze, number / 100)) <= 2) {
                return number;
            }
        }
        return -1;
    }

    int advise(int a, int b) {
        index(in(a, 0, swings.size() - 1) && in(b, 0, swings.size() - 1));
        argument(a != b);
        int best = -1;
        int soonest = 201;
        for (int weight = 0; weight <= 10; weight++) {
            Naive tried = copy();
            tried.swings.get(a).weight = weight;
            tried.swings.get(a).since = 0;
            int meets = tried.meets(a, b);
            if (meets >= 0 && meets < soonest) {
                soonest = meets;
                best = weight;
            }
        }
        return best;
    }

    int foresee(int beats, int what) {
        argument(in(beats, 1, 200));
        index(in(what, 4, 8));
        Naive later = copy();
        later.go(beats);
        return later.count(what);
    }

    double mean() {
        double all = people.stream().mapToInt(p -> p.caught).sum();
        return people.isEmpty() ? 0 : all / people.size();
    }

    long digest() {
        long d = 1061;
        for (int what = 0; what <= 8; what++) {
            d = d * 31 + count(what);
        }
        for (int i = 0; i < swings.size() * 8; i++) {
            d = d * 31 + trapeze(i / 8, i % 8);
        }
        for (int i = 0; i < people.size() * 5; i++) {
            d = d * 31 + flyer(i / 5, i % 5);
        }
        for (int i = 0; i < calls.size() * 5; i++) {
            d = d * 31 + called(i / 5, i % 5);
        }
        for (int[] net : nets) {
            d = d * 31 + net[0];
            d = d * 31 + net[1];
        }
        return d;
    }
}

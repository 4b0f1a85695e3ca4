import java.io.IOException;
import java.lang.reflect.Method;
import java.lang.reflect.Modifier;
import java.nio.file.Files;
import java.nio.file.Path;
import java.util.List;
import java.util.regex.Matcher;
import java.util.regex.Pattern;

/** README.md holds: its example answers as it says, and it tells each call and each exception; run in the checkout. */
public final class ReadmeTest {
    private static final Pattern EXCEPTION = Pattern.compile("\\w+Exception");

    // What stands between the two marks here stands in README.md, line by line: so the example there is one that runs.
    private static void example() {
        // README from here
        CircusLines ring = new CircusLines();
        int first = ring.rig(50, 10, 2, 5);         // 0: middle 50, width 10, counterweight 2, strength 5
        int second = ring.rig(70, 10, 2, 5);        // 1
        int nets = ring.spread(35, 65);             // 1: the places 35 to 65
        int flyer = ring.join();                    // 0
        int hanging = ring.mount(flyer, first);     // 1: as many hang from it now
        int none = ring.flight(flyer, second);      // -1: from here no flight leads to the second one
        int early = ring.go(4);                     // 0: nobody was caught in these beats
        int flight = ring.flight(flyer, second);    // 133: a time of 1 beat, a reach of 13
        int now = ring.count(0);                    // 4
        int cue = ring.cue(now, flyer, flight % 100 - 20, flight / 100);    // 0
        int flying = ring.foresee(1, 5);            // 1: behind one beat one flies (nothing is changed)
        int catches = ring.go(2);                   // 1
        int there = ring.flyer(flyer, 1);           // 1: hangs from the second one
        double mean = ring.mean();                  // 1.0: catches in all, divided by the flyers
        // README to here
        int[] answers = {first, second, nets, flyer, hanging, none, early, flight, now, cue, flying, catches, there};
        int[] told = {0, 1, 1, 0, 1, -1, 0, 133, 4, 0, 1, 1, 1};
        for (int i = 0; i < told.length; i++) {
            Checks.due("answer " + i + " of the example", answers[i], told[i]);
        }
        Checks.dueDouble("mean() of the example", mean, 1.0);
    }

    private static void exampleStandsThere(List<String> readme) throws IOException {
        List<String> own = Files.readAllLines(Path.of("src/test/java/ReadmeTest.java"));
        int from = own.indexOf("        // README from here") + 1;
        int to = own.indexOf("        // README to here");
        int there = readme.indexOf("```java") + 1;
        for (int i = from; i < to; i++) {
            String want = own.get(i).strip();
            String got = there + i - from < readme.size() ? readme.get(there + i - from) : "nothing";
            Checks.due("README.md has the line: " + want, got.equals(want), true);
        }
    }

    /** The rows of the table below this heading that begin so. */
    private static List<String> rows(List<String> readme, String heading, String beginning) {
        int start = readme.indexOf(heading);
        Checks.due("README.md has the heading " + heading, start >= 0, true);
        List<String> below = readme.subList(start + 1, readme.size());
        return below.stream().takeWhile(l -> !l.startsWith("#")).filter(l -> l.startsWith(beginning)).toList();
    }

    private static String exceptionsIn(String row) {
        StringBuilder found = new StringBuilder();
        Matcher matcher = EXCEPTION.matcher(row);
        while (matcher.find()) {
            found.append(matcher.group()).append(' ');
        }
        return found.toString();
    }

    private static void tellsEachCall(List<String> readme, Method method) {
        String name = method.getName();
        List<String> uses = rows(readme, "### What its calls are for", "| `" + name + "(");
        Checks.due("rows on the use of " + name, uses.size(), 1);
        for (String row : uses) {
            String arguments = row.substring(row.indexOf('(') + 1, row.indexOf(')'));
            int many = arguments.isEmpty() ? 0 : arguments.split(", ").length;
            Checks.due("arguments of " + name, many, method.getParameterCount());
        }
    }

    private static void tellsEachException(List<String> readme, Method method) {
        String name = method.getName();
        StringBuilder due = new StringBuilder();
        for (Class<?> one : method.getExceptionTypes()) {
            due.append(one.getSimpleName()).append(' ');
        }
        List<String> refusals = rows(readme, "### What is refused", "| `" + name + "`");
        Checks.due("rows on the refusals of " + name, refusals.size(), due.length() == 0 ? 0 : 1);
        for (String row : refusals) {
            Checks.due(name + " throws, in order: " + due, exceptionsIn(row).equals(due.toString()), true);
        }
    }

    public static void main(String[] args) throws IOException {
        List<String> readme = Files.readAllLines(Path.of("README.md"));
        example();
        exampleStandsThere(readme);
        for (Method method : CircusLines.class.getDeclaredMethods()) {
            if (Modifier.isPublic(method.getModifiers())) {
                tellsEachCall(readme, method);
                tellsEachException(readme, method);
            }
        }
        Checks.end();
    }
}

import java.util.ArrayList;
import java.util.List;
import java.util.Map;
import java.util.regex.Matcher;
import java.util.regex.Pattern;

/**
 * A run of calls written as a text: "found(0)=1 publish(1)=2 add(1) key(0, 15)=0".
 * Behind = stands the answer that is due, ANY if it does not matter. A call
 * without one prepares what follows: it must not be refused, so that no test
 * passes on a run that did not come to the point it was written for.
 */
final class Script {
    private static final int CALLS_OF_AN_OBJECT = 512;
    private static final Pattern STEP = Pattern.compile("(\\w+)\\(([^)]*)\\)(?:=(-?\\w+))?(?:\\s+|$)");
    private static final Map<String, Integer> NAMES = Map.ofEntries(
            Map.entry("REFUSED", -1), Map.entry("FULL", -2), Map.entry("STALE", -3),
            Map.entry("STRANGER", 0), Map.entry("READY", 1), Map.entry("MEMBER", 2), Map.entry("OUT", 3),
            Map.entry("true", 1), Map.entry("false", 0),
            Map.entry("MIN", Integer.MIN_VALUE), Map.entry("MAX", Integer.MAX_VALUE));

    private record Step(Call call, String due) {
        boolean isWrong(long got) {
            if (due == null) {
                return got < 0;
            }
            return !due.equals("ANY") && got != number(due);
        }

        String wanted() {
            return due == null ? "not to be refused" : due;
        }
    }

    private final String text;
    private final List<Step> steps = new ArrayList<>();

    Script(String text) {
        this.text = text.strip();
        Matcher step = STEP.matcher(this.text);
        int end = 0;
        while (end < this.text.length() && step.find(end) && step.start() == end) {
            steps.add(new Step(new Call(step.group(1), numbers(step.group(2))), step.group(3)));
            end = step.end();
        }
        if (end != this.text.length()) {
            throw new IllegalArgumentException("not a run of calls: " + this.text.substring(end));
        }
    }

    private static int[] numbers(String list) {
        String[] parts = list.split(",");
        int[] all = new int[parts.length];
        for (int i = 0; i < all.length; i++) {
            all[i] = number(parts[i].strip());
        }
        return all;
    }

    private static int number(String word) {
        Integer named = NAMES.get(word);
        return named == null ? Integer.parseInt(word) : named;
    }

    int size() {
        return steps.size();
    }

    /** Makes the calls on a new object, and tells every answer that is not due. */
    KeyTreeGroup play(String sentence, Due due) {
        due.is(sentence + ": calls of one object beyond 512", Math.max(0, size() - CALLS_OF_AN_OBJECT), 0);
        KeyTreeGroup x = new KeyTreeGroup();
        for (int i = 0; i < size(); i++) {
            Step step = steps.get(i);
            long got = step.call().on(x);
            due.so(!step.isWrong(got), () -> sentence + ": " + step.call() + " answered " + got + ", due is "
                    + step.wanted() + ", in the run: " + text);
        }
        return x;
    }

    /** Makes the calls on a new object without a look at the answers. */
    KeyTreeGroup replay() {
        KeyTreeGroup x = new KeyTreeGroup();
        for (Step step : steps) {
            step.call().on(x);
        }
        return x;
    }

    @Override
    public String toString() {
        return text;
    }
}

import java.util.Random;

/**
 * No call may ever throw or fail to end, for any arguments in any state: runs
 * of calls with fixed seeds, far beyond the 512 for which the answers are told,
 * with numbers from all of int. What they answer is not looked at here.
 */
public final class AnyCallsTest {
    private static final int RUNS = 300;
    private static final int CALLS = 3000;
    private static final String[] NAMES = {
        "found", "publish", "add", "remove", "update", "commit", "process", "leak", "state", "epoch", "leaf", "key",
        "unmerged", "resolution", "sent", "holds", "keyHeard", "secretHeard", "count"};
    private static final int[] ENDS = {
        Integer.MIN_VALUE, Integer.MIN_VALUE + 1, Integer.MAX_VALUE, Integer.MAX_VALUE - 1, -2, -1, 0, 1, 7, 8, 9, 10,
        15, 16, 20, 21, 31, 32, 33, 63, 64, 119, 120, 121, 255, 256, 65536};

    public static void main(String[] args) {
        Due due = new Due();
        for (int run = 0; run < RUNS; run++) {
            go(due, run, new Random(run * 104729L + 5));
        }
        due.end("AnyCallsTest");
    }

    private static void go(Due due, int run, Random random) {
        KeyTreeGroup x = new KeyTreeGroup();
        for (int c = 0; c < CALLS; c++) {
            Call call = new Call(NAMES[random.nextInt(NAMES.length)], number(random), number(random), number(random));
            String thrown = thrownBy(call, x);
            due.so(thrown.isEmpty(), () -> "run " + run + ": " + call + " threw " + thrown);
        }
    }

    private static int number(Random random) {
        return switch (random.nextInt(12)) {
            case 0 -> random.nextInt();
            case 1 -> ENDS[random.nextInt(ENDS.length)];
            case 2 -> random.nextInt(140) - 10;
            default -> random.nextInt(10);
        };
    }

    private static String thrownBy(Call call, KeyTreeGroup x) {
        try {
            call.on(x);
            return "";
        } catch (RuntimeException | StackOverflowError e) {
            return e.toString();
        }
    }
}

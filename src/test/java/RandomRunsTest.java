import java.util.Random;

/**
 * Long runs with fixed seeds, every answer compared with PlainGroup's. No run
 * goes beyond the 512 calls for which the document says the answers.
 */
public final class RandomRunsTest {
    private static final int RUNS = 8000;
    private static final int CALLS = 512;
    private static final int WRONG_ENOUGH = 20;

    private final Due due = new Due();
    private final int run;
    private final Random random;
    private final KeyTreeGroup group = new KeyTreeGroup();
    private final PlainGroup plain = new PlainGroup();
    private final int leakiness;
    private final int laziness;
    private final int asking;
    private final int updating;

    private RandomRunsTest(int run) {
        this.run = run;
        random = new Random(run * 7919L + 17);
        leakiness = random.nextInt(6);
        laziness = random.nextInt(4);
        asking = 20 + random.nextInt(60);
        updating = random.nextInt(3);
    }

    public static void main(String[] args) {
        Due all = new Due();
        int furthest = 0;
        int mostKeys = 0;
        for (int run = 0; run < RUNS && all.wrongSoFar() < WRONG_ENOUGH; run++) {
            RandomRunsTest one = new RandomRunsTest(run);
            one.go();
            all.is("run " + run + ": wrong answers", one.due.wrongSoFar(), 0);
            furthest = Math.max(furthest, one.plain.count(0));
            mostKeys = Math.max(mostKeys, one.plain.count(1));
        }
        all.is("the furthest epoch of all runs", furthest, 20);
        all.is("the most keys of all runs", mostKeys, 120);
        all.end("RandomRunsTest");
    }

    private void go() {
        for (int c = 0; c < CALLS && due.wrongSoFar() == 0; c++) {
            if (random.nextInt(100) < asking) {
                ask();
            } else {
                change();
            }
        }
    }

    private int anyPerson() {
        return random.nextInt(40) == 0 ? random.nextInt(5) * 7 - 11 : random.nextInt(10);
    }

    private int personLike(int state, boolean newest) {
        for (int i = 0; i < 12; i++) {
            int p = random.nextInt(10);
            if (plain.state(p) == state && (!newest || plain.epoch(p) == plain.count(0))) {
                return p;
            }
        }
        return anyPerson();
    }

    private int anyEpoch() {
        return random.nextInt(20) == 0 ? random.nextInt(30) - 4 : random.nextInt(plain.count(0) + 2);
    }

    private int anyNode() {
        return random.nextInt(20) == 0 ? random.nextInt(40) - 12 : 1 + random.nextInt(15);
    }

    private int anyKey() {
        return random.nextInt(20) == 0 ? random.nextInt(300) - 100 : random.nextInt(plain.count(1) + 2);
    }

    private void change() {
        int p = anyPerson();
        if (random.nextInt(20) < updating) {
            p = personLike(2, true);
            is("update", p, group.update(p), plain.update(p));
            return;
        }
        switch (random.nextInt(20)) {
            case 0 -> is("found", p, group.found(p), plain.found(p));
            case 1, 2 -> is("publish", p, group.publish(p), plain.publish(p));
            case 3, 4, 5 -> {
                p = personLike(1, false);
                is("add", p, group.add(p), plain.add(p));
            }
            case 6 -> {
                int leaf = random.nextInt(12) - 2;
                is("remove", leaf, group.remove(leaf), plain.remove(leaf));
            }
            case 7, 8 -> {
                p = personLike(2, random.nextBoolean());
                is("update", p, group.update(p), plain.update(p));
            }
            case 9, 10, 11 -> {
                p = personLike(2, random.nextInt(4) > 0);
                is("commit", p, group.commit(p), plain.commit(p));
            }
            case 12 -> {
                if (random.nextInt(10) < leakiness) {
                    is("leak", p, group.leak(p), plain.leak(p));
                }
            }
            default -> {
                if (random.nextInt(4) >= laziness) {
                    p = personLike(2, false);
                    is("process", p, group.process(p), plain.process(p));
                }
            }
        }
    }

    private void ask() {
        int p = anyPerson();
        int e = anyEpoch();
        int n = anyNode();
        int k = anyKey();
        int i = random.nextInt(11) - 2;
        switch (random.nextInt(12)) {
            case 0 -> is("state", p, group.state(p), plain.state(p));
            case 1 -> is("epoch", p, group.epoch(p), plain.epoch(p));
            case 2 -> is("leaf", p, group.leaf(p), plain.leaf(p));
            case 3 -> is("key " + e, n, group.key(e, n), plain.key(e, n));
            case 4 -> is("unmerged " + e, n, group.unmerged(e, n), plain.unmerged(e, n));
            case 5, 6 -> is("resolution " + e + " " + n, i, group.resolution(e, n, i), plain.resolution(e, n, i));
            case 7 -> is("sent", e, group.sent(e), plain.sent(e));
            case 8 -> is("holds " + p, k, group.holds(p, k) ? 1 : 0, plain.holds(p, k) ? 1 : 0);
            case 9 -> is("keyHeard", k, group.keyHeard(k) ? 1 : 0, plain.keyHeard(k) ? 1 : 0);
            case 10 -> is("secretHeard", e, group.secretHeard(e) ? 1 : 0, plain.secretHeard(e) ? 1 : 0);
            default -> is("count", i, group.count(i), plain.count(i));
        }
    }

    private void is(String call, int argument, int got, int want) {
        due.is("run " + run + ": " + call + " " + argument, got, want);
    }
}

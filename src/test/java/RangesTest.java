/**
 * "In every call numbers are tested first; one out of its range is REFUSED, and
 * a refused call (below 0) changes nothing." For each call the numbers on both
 * sides of both ends of its range, and the least and the greatest int: on a new
 * object, before and after found, in a group where much goes on, and where all
 * is FULL.
 */
public final class RangesTest {
    private static final String[] STAGES = {
        "", "publish(0) publish(9) ", Stages.FOUNDED, Stages.NO_BLANK_NODE, Stages.BUSY, Stages.ALL_FULL};

    /** Some would be in range if they were cut to a byte, taken modulo or shifted by. */
    private static final int[] NO_PERSONS = {
        -1, 10, -2, 11, -9, -10, 16, 20, 32, 256, 65536 + 1, 0x40000000,
        Integer.MIN_VALUE, Integer.MIN_VALUE + 1, Integer.MAX_VALUE, Integer.MAX_VALUE - 1};

    /** Of -7 .. -1, 8 + l is a node above the leaves. */
    private static final int[] NO_LEAVES = {
        -1, 8, -2, -3, -4, -5, -6, -7, -8, 9, 15, 16, 32, 33, -31, 256, 65536 + 1, 0x40000000,
        Integer.MIN_VALUE, Integer.MIN_VALUE + 1, Integer.MAX_VALUE, Integer.MAX_VALUE - 1};
    private static final int[] NO_NODES = {
        0, 16, -1, 17, -8, 24, 32, 256 + 8, 65536 + 8,
        Integer.MIN_VALUE, Integer.MIN_VALUE + 8, Integer.MAX_VALUE, Integer.MAX_VALUE - 1};
    private static final int[] NEVER_EPOCHS = {
        -1, 21, -2, 22, 32, 256, 65536, Integer.MIN_VALUE, Integer.MIN_VALUE + 1, Integer.MAX_VALUE, Integer.MAX_VALUE - 1};
    private static final int[] NEVER_KEYS = {
        0, 121, -1, 122, 128, 256 + 1, 65536 + 1, Integer.MIN_VALUE, Integer.MIN_VALUE + 1, Integer.MAX_VALUE,
        Integer.MAX_VALUE - 1};
    private static final int[] NO_COUNTS = {
        -1, 7, -2, 8, 32, 256, 65536, Integer.MIN_VALUE, Integer.MIN_VALUE + 1, Integer.MAX_VALUE, Integer.MAX_VALUE - 1};

    private static final Due due = new Due();

    public static void main(String[] args) {
        personsOutOfRange();
        personsInRange();
        leavesOutOfRange();
        leavesInRange();
        nodesOutOfRange();
        nodesInRange();
        epochsOutOfRange();
        epochsInRange();
        indexesOfAResolution();
        keysOutOfRange();
        keysInRange();
        countsOutOfRange();
        severalNumbersAtOnce();
        questionsChangeNothing();
        due.end("RangesTest");
    }

    private static void is(String sentence, String run) {
        new Script(run).play(sentence, due);
    }

    private static void eachAnswers(String sentence, String before, String form, String answer, int... numbers) {
        StringBuilder run = new StringBuilder(before);
        for (int number : numbers) {
            run.append(String.format(form, number)).append("=").append(answer).append(" ");
        }
        is(sentence, run.toString());
    }

    private static void personsOutOfRange() {
        String[] changes = {"found", "publish", "add", "update", "commit", "process", "leak"};
        String[] questions = {"state(%d)", "epoch(%d)", "leaf(%d)"};
        for (String stage : STAGES) {
            for (int person : NO_PERSONS) {
                for (String change : changes) {
                    Unchanged.by("persons 0 .. 9", due, stage, change + "(" + person + ")=REFUSED");
                }
            }
            for (String question : questions) {
                eachAnswers("persons 0 .. 9", stage, question, "REFUSED", NO_PERSONS);
            }
            for (int key = 0; key <= 3; key++) {
                eachAnswers("holds: false for numbers out of range", stage, "holds(%d, " + key + ")", "false", NO_PERSONS);
            }
        }
    }

    /** Each of the persons 0 .. 9 can do all that a person does. */
    private static void personsInRange() {
        for (int p = 0; p <= 9; p++) {
            int other = (p + 1) % 10;
            String life = "state($P)=STRANGER leak($P)=0 publish($P)=1 state($P)=READY leak($P)=1 holds($P, 1)=true "
                    + "found($Q)=2 add($P)=1 commit($Q)=1 state($P)=MEMBER epoch($P)=1 leaf($P)=1 holds($P, 1)=true "
                    + "update($P)=7 holds($P, 7)=true commit($P)=2 epoch($P)=2 process($Q)=2 remove(1)=1 commit($Q)=3 "
                    + "process($P)=OUT state($P)=OUT epoch($P)=REFUSED leaf($P)=REFUSED leak($P)=0 publish($P)=16 "
                    + "state($P)=READY";
            is("persons 0 .. 9", life.replace("$P", "" + p).replace("$Q", "" + other));
            is("persons 0 .. 9", "found($P)=1 state($P)=MEMBER epoch($P)=0 leaf($P)=0 leak($P)=1".replace("$P", "" + p));
        }
    }

    private static void leavesOutOfRange() {
        for (String stage : STAGES) {
            for (int leaf : NO_LEAVES) {
                Unchanged.by("remove: leaf 0 .. 7", due, stage, "remove(" + leaf + ")=REFUSED");
            }
        }
    }

    private static void leavesInRange() {
        for (int leaf = 0; leaf <= 7; leaf++) {
            int committer = leaf == 0 ? 7 : 0;
            is("remove: leaf 0 .. 7", Stages.groupOf(8)
                    + String.format("leaf(%d)=%d remove(%d)=1 commit(%d)=2 key(2, %d)=0 count(6)=7 process(%d)=OUT",
                            leaf, leaf, leaf, committer, 8 + leaf, leaf));
        }
    }

    private static void nodesOutOfRange() {
        for (String stage : STAGES) {
            for (int epoch = -1; epoch <= 3; epoch++) {
                eachAnswers("key: node 1 .. 15", stage, "key(" + epoch + ", %d)", "REFUSED", NO_NODES);
                eachAnswers("unmerged: node 1 .. 15", stage, "unmerged(" + epoch + ", %d)", "REFUSED", NO_NODES);
                for (int i = -1; i <= 1; i++) {
                    eachAnswers("resolution: node 1 .. 15", stage,
                            "resolution(" + epoch + ", %d, " + i + ")", "REFUSED", NO_NODES);
                }
            }
        }
    }

    private static void nodesInRange() {
        int[] second = {16, 15, 0, 14, 0, 0, 0, 13, 2, 3, 4, 5, 6, 7, 8};
        int[] third = {20, 0, 19, 0, 0, 0, 18, 0, 0, 3, 4, 5, 6, 7, 17};
        StringBuilder run = new StringBuilder(Stages.groupOf(8)
                + "commit(0)=2 process(7)=2 remove(0) remove(1) commit(7)=3 ");
        for (int node = 1; node <= 15; node++) {
            run.append(String.format("key(2, %d)=%d unmerged(2, %d)=0 ", node, second[node - 1], node));
            run.append(String.format("key(3, %d)=%d unmerged(3, %d)=0 ", node, third[node - 1], node));
            int first = second[node - 1] != 0 ? node : firstLeafBelow(node);
            run.append(String.format("resolution(2, %d, 0)=%d ", node, first));
        }
        is("node 1 .. 15", run.toString());
        int[] full = {24, 15, 23, 10, 14, 18, 22, 9, 2, 13, 4, 17, 6, 21, 8};
        run = new StringBuilder(Stages.NO_BLANK_NODE + "count(1)=24 ");
        for (int node = 1; node <= 15; node++) {
            run.append(String.format("key(4, %d)=%d unmerged(4, %d)=0 ", node, full[node - 1], node));
            run.append(String.format("resolution(4, %d, -1)=1 resolution(4, %d, 0)=%d ", node, node, node));
        }
        is("node 1 .. 15, none BLANK", run.toString());
    }

    private static int firstLeafBelow(int node) {
        int below = node;
        while (below < 8) {
            below = 2 * below;
        }
        return below;
    }

    private static void epochsOutOfRange() {
        int[] newest = {-1, -1, 0, 4, 3, 20};
        for (int s = 0; s < STAGES.length; s++) {
            is("the NEWEST EPOCH", STAGES[s] + "count(0)=" + newest[s]);
            for (int epoch : NEVER_EPOCHS) {
                askOfNoEpoch(STAGES[s], epoch);
            }
            for (int epoch = newest[s] + 1; epoch <= 20; epoch++) {
                askOfNoEpoch(STAGES[s], epoch);
            }
        }
    }

    private static void askOfNoEpoch(String stage, int epoch) {
        String run = "key($E, 1)=REFUSED key($E, 8)=REFUSED key($E, 15)=REFUSED key($E, 0)=REFUSED key($E, 16)=REFUSED "
                + "unmerged($E, 1)=REFUSED unmerged($E, 8)=REFUSED unmerged($E, 15)=REFUSED "
                + "resolution($E, 1, -1)=REFUSED resolution($E, 8, 0)=REFUSED resolution($E, 15, -1)=REFUSED "
                + "sent($E)=REFUSED secretHeard($E)=false";
        is("there is no such EPOCH", stage + run.replace("$E", "" + epoch));
    }

    private static void epochsInRange() {
        // each commit of 0 gives leaf 0 the next key but three, and the root the next but none
        StringBuilder run = new StringBuilder(Stages.newest(20));
        for (int epoch = 1; epoch <= 20; epoch++) {
            run.append(String.format("key(%d, 8)=%d key(%d, 1)=%d ", epoch, 5 + 4 * epoch, epoch, 8 + 4 * epoch));
            run.append(String.format("unmerged(%d, 1)=0 resolution(%d, 1, -1)=1 ", epoch, epoch));
            run.append(String.format("sent(%d)=%d ", epoch, epoch == 1 ? 14 : 7));
        }
        run.append("key(0, 8)=1 key(0, 1)=0 unmerged(0, 1)=0 resolution(0, 1, -1)=1 resolution(0, 1, 0)=8 sent(0)=REFUSED ");
        is("EPOCH 0 .. NEWEST", run.toString());
        for (int epoch = 0; epoch <= 20; epoch++) {
            String before = Stages.FOUNDED + "commit(0) ".repeat(epoch);
            is("secretHeard, EPOCH 0 .. NEWEST", before + String.format(
                    "secretHeard(%d)=false leak(0) secretHeard(%d)=true secretHeard(%d)=false secretHeard(%d)=false count(5)=1",
                    epoch, epoch, epoch - 1, epoch + 1));
        }
    }

    private static void indexesOfAResolution() {
        String wrong = "resolution($E, $N, -2)=REFUSED resolution($E, $N, MIN)=REFUSED resolution($E, $N, MAX)=REFUSED "
                + "resolution($E, $N, 15)=REFUSED resolution($E, $N, 16)=REFUSED resolution($E, $N, 65536)=REFUSED ";
        for (int node = 1; node <= 15; node++) {
            String there = wrong.replace("$N", "" + node);
            is("resolution: no such node in it", Stages.FOUNDED + there.replace("$E", "0"));
            is("resolution: no such node in it", Stages.BUSY + there.replace("$E", "3"));
            is("resolution: no such node in it", Stages.ALL_FULL + there.replace("$E", "20"));
        }
        is("resolution: of a BLANK leaf nothing", Stages.FOUNDED
                + "resolution(0, 9, -1)=0 resolution(0, 9, 0)=REFUSED resolution(0, 9, 1)=REFUSED "
                + "resolution(0, 15, -1)=0 resolution(0, 15, 0)=REFUSED");
        is("resolution: of BLANK nodes over BLANK leaves nothing", Stages.FOUNDED
                + "resolution(0, 3, -1)=0 resolution(0, 3, 0)=REFUSED resolution(0, 5, -1)=0 resolution(0, 7, 0)=REFUSED");
        is("resolution: one", Stages.FOUNDED
                + "resolution(0, 8, -1)=1 resolution(0, 8, 0)=8 resolution(0, 8, 1)=REFUSED "
                + "resolution(0, 1, -1)=1 resolution(0, 1, 0)=8 resolution(0, 1, 1)=REFUSED");
        is("resolution: the most that a BLANK node has", Stages.groupOf(8)
                + "resolution(1, 3, -1)=4 resolution(1, 3, 0)=12 resolution(1, 3, 1)=13 "
                + "resolution(1, 3, 2)=14 resolution(1, 3, 3)=15 resolution(1, 3, 4)=REFUSED");
        is("resolution: the most that a node with UNMERGED leaves has", Stages.groupOf(5)
                + "commit(4)=2 process(0)=2 publish(7) publish(6) publish(5) add(7) add(6) add(5) commit(0)=3 "
                + "unmerged(3, 3)=224 unmerged(3, 6)=32 unmerged(3, 7)=0 unmerged(3, 1)=0 "
                + "resolution(3, 3, -1)=4 resolution(3, 3, 0)=3 resolution(3, 3, 1)=13 "
                + "resolution(3, 3, 2)=14 resolution(3, 3, 3)=15 resolution(3, 3, 4)=REFUSED");
    }

    private static void keysOutOfRange() {
        for (String stage : STAGES) {
            eachAnswers("keyHeard: false for numbers that no KEY has", stage, "keyHeard(%d)", "false", NEVER_KEYS);
            for (int person = 0; person <= 9; person++) {
                eachAnswers("holds: false for numbers out of range", stage, "holds(" + person + ", %d)", "false", NEVER_KEYS);
            }
        }
        String all = "leak(0) leak(1) leak(2) leak(8) ";
        eachAnswers("keyHeard: false for numbers that no KEY has", Stages.ALL_FULL + all, "keyHeard(%d)", "false", NEVER_KEYS);
        is("no KEY has the next number yet", "found(0)=1 leak(0)=1 keyHeard(1)=true keyHeard(2)=false holds(0, 2)=false "
                + "publish(1)=2 keyHeard(2)=false holds(1, 2)=true holds(1, 3)=false leak(1)=1 keyHeard(2)=true keyHeard(3)=false");
        is("a BLANK node's 0 is no KEY", Stages.FOUNDED
                + "key(0, 4)=0 holds(0, 0)=false leak(0)=1 keyHeard(0)=false count(4)=1");
    }

    private static void keysInRange() {
        is("KEYS 1 .. 120", Stages.ALL_FULL + "key(20, 1)=120 key(20, 8)=117 holds(0, 120)=true holds(0, 119)=true "
                + "holds(0, 116)=false holds(2, 3)=true holds(2, 120)=false keyHeard(120)=false leak(0)=4 keyHeard(120)=true "
                + "keyHeard(117)=true keyHeard(116)=false keyHeard(121)=false count(4)=4");
        is("KEYS 1 .. 120", Stages.keysMade(119) + "publish(9)=120 holds(9, 120)=true holds(9, 119)=false leak(9)=1 "
                + "keyHeard(120)=true keyHeard(119)=false keyHeard(121)=false count(4)=1");
        is("KEY 1", "publish(9)=1 holds(9, 1)=true keyHeard(1)=false leak(9)=1 keyHeard(1)=true keyHeard(0)=false keyHeard(2)=false");
    }

    private static void countsOutOfRange() {
        for (String stage : STAGES) {
            eachAnswers("count: else -2", stage, "count(%d)", "-2", NO_COUNTS);
        }
        is("count 0 .. 6 without a group",
                "count(0)=-1 count(1)=0 count(2)=0 count(3)=0 count(4)=0 count(5)=0 count(6)=0");
        is("count 0 .. 6 without a group but with keys", "publish(0) publish(9) leak(9) "
                + "count(0)=-1 count(1)=2 count(2)=0 count(3)=0 count(4)=1 count(5)=0 count(6)=0");
        is("count 0 .. 6 after found", Stages.FOUNDED
                + "count(0)=0 count(1)=1 count(2)=0 count(3)=1 count(4)=0 count(5)=0 count(6)=1 "
                + "leak(0)=1 count(4)=1 count(5)=1");
        is("count 0 .. 6 where all is FULL", Stages.ALL_FULL
                + "count(0)=20 count(1)=120 count(2)=0 count(3)=8 count(4)=0 count(5)=0 count(6)=8");
    }

    /** Numbers are tested first: neither STALE nor FULL for a number out of range. */
    private static void severalNumbersAtOnce() {
        is("numbers first, then FULL", Stages.ALL_FULL + "publish(9)=FULL publish(10)=REFUSED publish(-1)=REFUSED "
                + "add(8)=FULL add(10)=REFUSED add(-1)=REFUSED update(0)=FULL update(10)=REFUSED update(-1)=REFUSED "
                + "commit(0)=FULL commit(10)=REFUSED commit(-1)=REFUSED");
        is("two numbers out of range", Stages.BUSY + "key(-1, 0)=REFUSED key(4, 16)=REFUSED key(MIN, MAX)=REFUSED "
                + "unmerged(-1, 0)=REFUSED unmerged(4, 16)=REFUSED unmerged(MAX, MIN)=REFUSED "
                + "resolution(-1, 0, -2)=REFUSED resolution(4, 16, 99)=REFUSED resolution(MIN, MIN, MIN)=REFUSED "
                + "resolution(3, 0, -1)=REFUSED resolution(3, 16, -1)=REFUSED resolution(4, 1, -1)=REFUSED "
                + "holds(-1, 0)=false holds(10, 121)=false holds(MIN, MAX)=false");
    }

    private static void questionsChangeNothing() {
        String[] questions = {
            "state(0)", "state(10)", "epoch(0)", "epoch(9)", "leaf(4)", "leaf(-1)", "key(3, 1)", "key(4, 1)", "key(3, 16)",
            "unmerged(3, 2)", "unmerged(-1, 2)", "resolution(3, 3, -1)", "resolution(3, 3, 9)", "resolution(2, 0, 0)",
            "sent(3)", "sent(0)", "sent(4)", "holds(1, 2)", "holds(9, 1)", "holds(10, 1)", "keyHeard(1)", "keyHeard(0)",
            "secretHeard(2)", "secretHeard(4)", "count(0)", "count(6)", "count(7)", "count(-1)"};
        for (String question : questions) {
            Unchanged.by("a question changes nothing", due, Stages.BUSY, question + "=ANY");
        }
    }
}

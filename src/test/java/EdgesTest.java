/**
 * The document's terms where something is empty, first, last or at its most:
 * the new object, the ends of the tree, BLANK nodes, UNMERGED leaves, what is
 * HELD, what is SENT, and what THE LISTENER works out of it.
 */
public final class EdgesTest {
    private static final Due due = new Due();

    public static void main(String[] args) {
        newObject();
        beforeAndAfterFound();
        foundKeyIsTheNextOne();
        leavesAreTheLastEightNodes();
        pathOfEachLeaf();
        keysAreNumberedAsTheyAreMade();
        unmergedLeavesAsPowersOfTwo();
        unmergedOfLeavesAndBlankNodes();
        blankNodesHaveNoUnmergedLeaves();
        pathHasNoUnmergedLeaves();
        commitWithoutProposals();
        commitOrderOfKinds();
        commitLeastBlankLeaf();
        commitLeavesOutItsOwnUpdate();
        commitEndsTheProposals();
        commitLeavesOthersWhereTheyAre();
        processOneByOne();
        processToOut();
        processOfOneThatGotARemovedLeaf();
        processOfSeveralRemoved();
        leakCountsBeforeItGrows();
        leakOfEachState();
        holdsByState();
        holdsNotWhatIsBlankOrUnmerged();
        holdsAnUpdateWhileItIsProposed();
        sentNothing();
        sentAtMost();
        sentNotToTheAdded();
        welcomeToEachAdded();
        welcomeWhereThePathsMeet();
        listenerAtFirst();
        listenerBeforeAndAfterTheMessage();
        listenerPathFromBelow();
        listenerSecretNeedsBoth();
        listenerToTheLastEpoch();
        lastCallOfAnObject();
        due.end("EdgesTest");
    }

    private static void is(String sentence, String run) {
        new Script(run).play(sentence, due);
    }

    /** A call for each number in turn, $N standing for the number and $M for the one after it. */
    private static String forEach(int from, int to, String form) {
        StringBuilder all = new StringBuilder();
        for (int number = from; number <= to; number++) {
            all.append(form.replace("$N", "" + number).replace("$M", "" + (number + 1))).append(" ");
        }
        return all.toString();
    }

    private static void newObject() {
        is("1: all persons STRANGERs", forEach(0, 9, "state($N)=STRANGER epoch($N)=REFUSED leaf($N)=REFUSED leak($N)=0"));
        is("1: no group", "count(0)=-1 count(6)=0 count(3)=0 sent(0)=REFUSED sent(1)=REFUSED "
                + forEach(1, 15, "key(0, $N)=REFUSED unmerged(0, $N)=REFUSED resolution(0, $N, -1)=REFUSED"));
        is("1: nothing made, proposed or heard", "count(1)=0 count(2)=0 count(4)=0 count(5)=0 "
                + forEach(0, 121, "keyHeard($N)=false") + forEach(-1, 21, "secretHeard($N)=false"));
        is("1: nothing held", forEach(0, 9, "holds($N, 0)=false holds($N, 1)=false holds($N, 120)=false"));
        is("1: two objects have nothing in common", "found(0)=1");
        is("1: two objects have nothing in common", "found(0)=1");
    }

    private static void beforeAndAfterFound() {
        is("before found", "publish(1)=1 add(1)=REFUSED remove(0)=REFUSED update(1)=REFUSED commit(1)=REFUSED process(1)=REFUSED "
                + "leak(1)=1 state(1)=READY epoch(1)=REFUSED leaf(1)=REFUSED key(0, 8)=REFUSED unmerged(0, 8)=REFUSED "
                + "resolution(0, 8, -1)=REFUSED sent(0)=REFUSED sent(1)=REFUSED holds(1, 1)=true keyHeard(1)=true "
                + "secretHeard(0)=false count(0)=-1 count(2)=0 count(3)=0 count(6)=0");
        is("after found", "publish(1)=1 found(0)=2 process(0)=REFUSED leak(1)=1 leak(0)=1 state(0)=MEMBER epoch(0)=0 leaf(0)=0 "
                + "key(0, 8)=2 unmerged(0, 8)=0 resolution(0, 8, -1)=1 sent(0)=REFUSED sent(1)=REFUSED holds(0, 2)=true "
                + "holds(0, 1)=false keyHeard(2)=true secretHeard(0)=true count(0)=0 count(3)=1 count(6)=1 "
                + "add(1)=1 remove(0)=2 update(0)=3 count(2)=3 commit(0)=REFUSED");
        is("2: all other nodes are BLANK", "found(7)=1 key(0, 8)=1 " + forEach(1, 7, "key(0, $N)=0 unmerged(0, $N)=0")
                + forEach(9, 15, "key(0, $N)=0 unmerged(0, $N)=0 resolution(0, $N, -1)=0"));
    }

    private static void foundKeyIsTheNextOne() {
        for (int ready = 0; ready <= 9; ready++) {
            is("2: Answers the KEY", forEach(0, ready - 1, "publish($N)=$M")
                    + String.format("found(%d)=%d key(0, 8)=%d holds(%d, %d)=true count(1)=%d",
                            ready, ready + 1, ready + 1, ready, ready + 1, ready + 1));
        }
    }

    private static void leavesAreTheLastEightNodes() {
        is("leaf l is node 8 + l", Stages.groupOf(8) + "key(1, 8)=9 " + forEach(1, 7, "leaf($N)=$N")
                + "key(1, 9)=2 key(1, 10)=3 key(1, 11)=4 key(1, 12)=5 key(1, 13)=6 key(1, 14)=7 key(1, 15)=8 count(6)=8");
    }

    /** Of a group of eight at epoch 1: 0 has made 9 .. 12, so the next commit makes 13 .. 16. */
    private static void pathOfEachLeaf() {
        int[] before = {0, 12, 11, 0, 10, 0, 0, 0, 9, 2, 3, 4, 5, 6, 7, 8};
        for (int leaf = 0; leaf <= 7; leaf++) {
            int[] keys = before.clone();
            int made = 13;
            for (int node = 8 + leaf; node >= 1; node /= 2) {
                keys[node] = made;
                made++;
            }
            StringBuilder run = new StringBuilder(Stages.groupOf(8) + "commit(" + leaf + ")=2 count(1)=16 ");
            for (int node = 1; node <= 15; node++) {
                run.append(String.format("key(2, %d)=%d key(1, %d)=%d ", node, keys[node], node, before[node]));
                boolean above = node == 8 + leaf || node == (8 + leaf) / 2 || node == (8 + leaf) / 4 || node == 1;
                run.append(String.format("holds(%d, %d)=%b ", leaf, keys[node], above));
            }
            is("7: from the leaf to the root", run.toString());
        }
    }

    private static void keysAreNumberedAsTheyAreMade() {
        is("KEYS are numbered 1, 2, ..", "publish(5)=1 found(2)=2 publish(0)=3 update(2)=4 commit(2)=1 count(1)=8 "
                + "key(1, 8)=5 key(1, 4)=6 key(1, 2)=7 key(1, 1)=8 update(2)=9 publish(1)=10 count(1)=10");
        is("KEYS: a refused call makes none", "publish(5)=1 publish(5)=REFUSED found(5)=REFUSED found(2)=2 found(3)=REFUSED "
                + "update(2)=3 update(2)=REFUSED commit(5)=REFUSED publish(2)=REFUSED publish(0)=4");
    }

    private static void unmergedLeavesAsPowersOfTwo() {
        String sentence = "14: leaf l as 2^l";
        is(sentence + ", leaf 0", Stages.groupOf(5) + "remove(0) commit(1)=2 process(4)=2 publish(6)=14 add(6) commit(4)=3 leaf(6)=0 "
                + "unmerged(3, 4)=1 unmerged(3, 2)=1 unmerged(3, 1)=0 unmerged(3, 8)=0 "
                + "resolution(3, 2, -1)=2 resolution(3, 2, 0)=2 resolution(3, 2, 1)=8 resolution(3, 2, 2)=REFUSED");
        is(sentence + ", leaf 7", Stages.groupOf(7) + "commit(6)=2 process(0)=2 publish(7) add(7) commit(0)=3 leaf(7)=7 "
                + "unmerged(3, 7)=128 unmerged(3, 3)=128 unmerged(3, 1)=0 unmerged(3, 15)=0 unmerged(3, 6)=0 "
                + "resolution(3, 7, 0)=7 resolution(3, 7, 1)=15 resolution(3, 7, -1)=2");
        is(sentence + ", leaves 1, 2 and 3", Stages.groupOf(5) + "remove(1) remove(2) remove(3) commit(0)=2 process(4)=2 "
                + "publish(7) publish(8) publish(9) add(9) add(7) add(8) commit(4)=3 leaf(9)=1 leaf(7)=2 leaf(8)=3 "
                + "unmerged(3, 2)=14 unmerged(3, 4)=2 unmerged(3, 5)=0 unmerged(3, 1)=0 "
                + "resolution(3, 2, -1)=4 resolution(3, 2, 0)=2 resolution(3, 2, 1)=9 resolution(3, 2, 2)=10 resolution(3, 2, 3)=11");
    }

    private static void unmergedOfLeavesAndBlankNodes() {
        String sentence = "UNMERGED leaves: empty for leaves and BLANK nodes";
        is(sentence, Stages.groupOf(5) + "commit(4)=2 process(0)=2 publish(5) publish(6) publish(7) add(5) add(6) add(7) commit(0)=3 "
                + "key(3, 7)=0 unmerged(3, 7)=0 key(3, 5)=0 unmerged(3, 5)=0 unmerged(3, 3)=224 "
                + forEach(8, 15, "unmerged(3, $N)=0"));
    }

    private static void blankNodesHaveNoUnmergedLeaves() {
        String sentence = "A node that gets BLANK has no UNMERGED leaves";
        String unmerged = Stages.groupOf(5) + "commit(4)=2 process(0)=2 publish(5) add(5) commit(0)=3 process(4)=3 "
                + "unmerged(3, 3)=32 unmerged(3, 6)=32 ";
        is(sentence + ": remove", unmerged + "remove(5) commit(0)=4 key(4, 3)=0 unmerged(4, 3)=0 key(4, 6)=0 unmerged(4, 6)=0 "
                + "unmerged(3, 3)=32 resolution(4, 3, -1)=1 resolution(4, 3, 0)=12");
        is(sentence + ": remove of another leaf below", unmerged + "remove(4) commit(0)=4 key(4, 3)=0 unmerged(4, 3)=0 unmerged(4, 6)=0 "
                + "resolution(4, 3, -1)=1 resolution(4, 3, 0)=13");
        is(sentence + ": update", unmerged + "update(5) commit(0)=4 key(4, 3)=0 unmerged(4, 3)=0 unmerged(4, 6)=0 "
                + "resolution(4, 3, -1)=2 resolution(4, 3, 0)=12 resolution(4, 3, 1)=13");
        is(sentence + ", nor when it has a KEY again", unmerged + "update(5) commit(0)=4 process(4)=4 commit(4)=5 "
                + "unmerged(5, 3)=0 unmerged(5, 6)=0 resolution(5, 3, -1)=1");
        is("UNMERGED as long as nothing of this comes", unmerged + "commit(0)=4 unmerged(4, 3)=32 unmerged(4, 6)=32 "
                + "commit(0)=5 unmerged(5, 3)=32 unmerged(5, 6)=32");
    }

    private static void pathHasNoUnmergedLeaves() {
        String unmerged = Stages.groupOf(5) + "commit(4)=2 process(0)=2 publish(5) add(5) commit(0)=3 process(4)=3 ";
        is("the PATH has no UNMERGED leaves", unmerged + "commit(4)=4 unmerged(4, 6)=0 unmerged(4, 3)=0 unmerged(4, 1)=0 "
                + "resolution(4, 3, -1)=1");
        is("the UNMERGED one commits itself", unmerged + "commit(5)=4 unmerged(4, 6)=0 unmerged(4, 3)=0 "
                + "holds(5, 20)=true holds(5, 21)=true holds(5, 22)=true publish(6)=23 add(6)=1 commit(5)=5 "
                + "unmerged(5, 3)=0 unmerged(5, 7)=0 leaf(6)=6 holds(6, 26)=true");
        is("an added leaf is merged in the PATH at once", Stages.groupOf(2) + "commit(0)=2 publish(2) add(2) commit(0)=3 "
                + forEach(1, 15, "unmerged(3, $N)=0"));
    }

    private static void commitWithoutProposals() {
        is("7: there may be none", "found(3)=1 count(2)=0 commit(3)=1 count(1)=5 epoch(3)=1 state(3)=MEMBER count(6)=1 sent(1)=0 "
                + "key(1, 8)=2 key(1, 4)=3 key(1, 2)=4 key(1, 1)=5 key(1, 5)=0 key(1, 3)=0 commit(3)=2 key(2, 8)=6 key(2, 1)=9");
    }

    private static void commitOrderOfKinds() {
        is("7: the removes before the adds, whatever came first", Stages.groupOf(8)
                + "publish(8) remove(6)=1 add(8)=2 remove(2)=3 commit(0)=2 leaf(8)=2 key(2, 14)=0 count(6)=7");
        is("7: the updates before the removes", Stages.groupOf(3)
                + "remove(1)=1 update(1)=8 commit(0)=2 key(2, 9)=0 count(6)=2 process(1)=OUT");
        is("7: and before the adds", Stages.groupOf(3)
                + "publish(5)=8 remove(1)=1 add(5)=2 update(1)=9 commit(0)=2 key(2, 9)=8 leaf(5)=1 holds(5, 8)=true holds(5, 9)=false");
        is("7: all nodes ABOVE an update get BLANK", Stages.groupOf(8) + "commit(7)=2 process(0)=2 process(6)=2 key(2, 7)=14 key(2, 3)=15 "
                + "update(6)=17 commit(0)=3 key(3, 14)=17 key(3, 7)=0 key(3, 3)=0 key(3, 15)=13 key(3, 1)=21");
        is("7: all nodes ABOVE a remove get BLANK", Stages.groupOf(8) + "commit(7)=2 process(0)=2 "
                + "remove(6) commit(0)=3 key(3, 14)=0 key(3, 7)=0 key(3, 3)=0 key(3, 15)=13 key(3, 1)=20");
    }

    private static void commitLeastBlankLeaf() {
        is("7: the least BLANK leaf, in the order of proposals", Stages.groupOf(5)
                + "publish(9) publish(8) publish(7) add(8) add(9) add(7) commit(0)=2 leaf(8)=5 leaf(9)=6 leaf(7)=7 count(6)=8");
        is("7: leaf 0 is the least", Stages.groupOf(3)
                + "publish(9) publish(8) add(9) add(8) remove(0) commit(2)=2 leaf(9)=0 leaf(8)=3 process(0)=OUT");
        is("7: all eight leaves by one who stays", Stages.groupOf(8)
                + "publish(8) publish(9) remove(7) remove(0) add(9) add(8) commit(3)=2 leaf(9)=0 leaf(8)=7 count(6)=8 count(3)=10");
    }

    private static void commitLeavesOutItsOwnUpdate() {
        is("7: an update of the one who commits is left out", Stages.groupOf(2) + "update(0)=7 commit(0)=2 key(2, 8)=8 "
                + forEach(0, 9, "holds($N, 7)=false") + "count(2)=0 sent(2)=1");
        is("7: of another it is not", Stages.groupOf(2) + "update(0)=7 commit(1)=2 key(2, 8)=7 key(2, 9)=8 process(0)=2 holds(0, 7)=true");
    }

    private static void commitEndsTheProposals() {
        is("7: There are no proposals any more", Stages.groupOf(3) + "publish(3) add(3)=1 update(1) remove(2)=3 count(2)=3 commit(0)=2 "
                + "count(2)=0 holds(1, 9)=false commit(0)=3 key(3, 9)=9 key(3, 10)=8 leaf(3)=2 process(3)=3");
        is("7: what was refused is no proposal", Stages.groupOf(2) + "add(5)=REFUSED remove(5)=REFUSED update(5)=REFUSED count(2)=0 "
                + "commit(0)=2 count(6)=2 sent(2)=1");
    }

    private static void commitLeavesOthersWhereTheyAre() {
        is("7: Others stay where they are", Stages.groupOf(3) + "publish(4) publish(5) add(4) remove(2) commit(1)=2 "
                + "epoch(0)=1 epoch(1)=2 epoch(2)=1 epoch(4)=2 state(2)=MEMBER state(4)=MEMBER state(5)=READY state(6)=STRANGER count(3)=4 "
                + "leaf(0)=0 leaf(1)=1 leaf(2)=2 leaf(4)=2 count(6)=3");
    }

    private static void processOneByOne() {
        is("8: the next EPOCH after the one it has come to", Stages.groupOf(2) + "commit(0)=2 commit(0)=3 commit(0)=4 "
                + "epoch(1)=1 process(1)=2 epoch(1)=2 process(1)=3 epoch(1)=3 state(1)=MEMBER process(1)=4 process(1)=REFUSED epoch(1)=4");
        is("8: what it HOLDS goes with it", Stages.groupOf(2) + "commit(0)=2 commit(0)=3 holds(1, 6)=true holds(1, 10)=false "
                + "process(1) holds(1, 6)=false holds(1, 10)=true holds(1, 14)=false process(1) holds(1, 10)=false holds(1, 14)=true "
                + "holds(1, 2)=true");
    }

    private static void processToOut() {
        String sentence = "8: if its leaf was removed in it, it is OUT";
        is(sentence, Stages.groupOf(3) + "remove(2) commit(0)=2 process(1)=2 state(1)=MEMBER process(2)=OUT state(2)=OUT epoch(2)=REFUSED "
                + "leaf(2)=REFUSED holds(2, 3)=false leak(2)=0 process(2)=REFUSED count(3)=2");
        is(sentence + ", not before it", Stages.groupOf(3) + "commit(0)=2 commit(0)=3 remove(2) commit(0)=4 commit(0)=5 "
                + "process(2)=2 process(2)=3 state(2)=MEMBER epoch(2)=3 process(2)=OUT state(2)=OUT process(2)=REFUSED");
        is(sentence + ", at the last EPOCH", Stages.newest(19) + "remove(7) commit(0)=20 " + "process(7) ".repeat(18)
                + "epoch(7)=19 process(7)=OUT state(7)=OUT");
        is(sentence + ", leaf 0", Stages.groupOf(2) + "remove(0) commit(1)=2 process(0)=OUT count(3)=1 key(2, 8)=0");
    }

    private static void processOfOneThatGotARemovedLeaf() {
        is("8: the leaf was removed when it was not its own", Stages.groupOf(3) + "publish(5) remove(2) add(5) commit(0)=2 "
                + "leaf(5)=2 leaf(2)=2 process(5)=REFUSED commit(0)=3 process(5)=3 state(5)=MEMBER process(2)=OUT");
        is("8: the leaf is removed again", Stages.groupOf(3) + "publish(5) remove(2) add(5) commit(0)=2 remove(2) commit(0)=3 "
                + "process(5)=OUT process(2)=OUT count(3)=2");
        is("8: back at the same leaf", Stages.groupOf(2) + "remove(1) commit(0)=2 process(1)=OUT publish(1) add(1) commit(0)=3 leaf(1)=1 "
                + "process(1)=REFUSED commit(0)=4 process(1)=4 state(1)=MEMBER");
    }

    private static void processOfSeveralRemoved() {
        is("8: all leaves removed by one commit", Stages.groupOf(8) + forEach(0, 6, "remove($N)=$M") + "commit(7)=2 count(6)=1 count(3)=8 "
                + forEach(0, 6, "process($N)=OUT state($N)=OUT") + "count(3)=1 process(7)=REFUSED state(7)=MEMBER");
        is("8: only the leaves that were removed", Stages.groupOf(8) + "remove(2) remove(5) commit(0)=2 "
                + "process(1)=2 process(2)=OUT process(3)=2 process(4)=2 process(5)=OUT process(6)=2 process(7)=2");
    }

    private static void leakCountsBeforeItGrows() {
        is("9: how many KEYS of these it did not have before", Stages.groupOf(2) + "commit(0) commit(0) leak(1)=4 count(4)=10 leak(1)=0 "
                + "count(4)=10 leak(0)=1 count(4)=11 leak(0)=0");
        is("9: by what it has grown there is nothing new", Stages.groupOf(2) + "leak(1)=4 commit(0)=2 count(4)=7 process(1)=2 leak(1)=0");
        is("9: the SECRET is learnt too, but not counted", Stages.FOUNDED + "leak(0)=1 count(5)=1 secretHeard(0)=true "
                + "update(0)=2 leak(0)=1 count(5)=1 commit(0)=1 leak(0)=4 count(5)=2 secretHeard(1)=true");
    }

    private static void leakOfEachState() {
        is("9: a STRANGER", "leak(4)=0 count(4)=0 count(5)=0");
        is("9: READY", "publish(4)=1 leak(4)=1 count(4)=1 count(5)=0 leak(4)=0");
        is("9: READY, KEY by KEY", forEach(0, 9, "publish($N)=$M leak($N)=1 leak($N)=0 count(4)=$M keyHeard($M)=true"));
        is("9: a MEMBER with no BLANK node ABOVE it and an update", Stages.groupOf(8) + "update(0)=13 leak(0)=5 count(4)=5 count(5)=1");
        is("9: a MEMBER that lags behind", Stages.groupOf(3) + "remove(2) commit(0)=2 leak(2)=3 keyHeard(3)=true keyHeard(7)=true "
                + "keyHeard(11)=false secretHeard(1)=true secretHeard(2)=false count(5)=1");
        is("9: OUT", Stages.groupOf(3) + "remove(2) commit(0)=2 process(2)=OUT leak(2)=0 count(4)=0 count(5)=0");
    }

    private static void holdsByState() {
        is("17: a person that is READY HOLDS the KEY that it made", "publish(4)=1 publish(5)=2 holds(4, 1)=true holds(4, 2)=false "
                + "holds(5, 2)=true holds(5, 1)=false holds(6, 1)=false");
        is("17: Others HOLD nothing", Stages.FOUNDED + forEach(1, 9, "holds($N, 1)=false") + "holds(0, 1)=true");
        is("17: READY and then a MEMBER", Stages.FOUNDED + "publish(1)=2 add(1) holds(1, 2)=true holds(1, 6)=false commit(0) "
                + "holds(1, 2)=true holds(1, 3)=false holds(1, 4)=true holds(1, 5)=true holds(1, 6)=true holds(1, 1)=false "
                + "holds(0, 1)=false holds(0, 2)=false holds(0, 3)=true holds(0, 6)=true");
        is("17: OUT and READY again", Stages.groupOf(2) + "remove(1) commit(0) holds(1, 2)=true process(1)=OUT holds(1, 2)=false "
                + "holds(1, 6)=false publish(1)=11 holds(1, 11)=true holds(1, 2)=false");
    }

    private static void holdsNotWhatIsBlankOrUnmerged() {
        is("17: its leaf is UNMERGED there", Stages.groupOf(5) + "remove(0) commit(1)=2 process(4)=2 publish(6)=14 add(6) commit(4)=3 "
                + "key(3, 4)=11 key(3, 2)=12 key(3, 1)=18 holds(6, 14)=true holds(6, 11)=false holds(6, 12)=false holds(6, 18)=true "
                + "process(1)=3 holds(1, 11)=true holds(1, 12)=true holds(1, 10)=true");
        is("17: UNMERGED no more", Stages.groupOf(5) + "remove(0) commit(1)=2 process(4)=2 publish(6)=14 add(6) commit(4)=3 process(1)=3 "
                + "commit(1)=4 process(6)=4 key(4, 4)=20 holds(6, 20)=true holds(6, 21)=true holds(6, 22)=true holds(6, 19)=false");
        is("17: the node is BLANK", Stages.groupOf(3) + "key(1, 5)=0 holds(2, 3)=true holds(2, 6)=true holds(2, 7)=true holds(2, 0)=false "
                + "holds(2, 5)=false leak(2)=3");
    }

    private static void holdsAnUpdateWhileItIsProposed() {
        is("17: besides, the KEY of its update", Stages.groupOf(3) + "holds(1, 8)=false update(1)=8 holds(1, 8)=true holds(1, 2)=true "
                + "holds(0, 8)=false holds(2, 8)=false commit(0)=2 holds(1, 8)=false holds(1, 2)=true process(1)=2 holds(1, 8)=true "
                + "holds(1, 2)=false");
        is("17: of one that is to be removed", Stages.groupOf(3) + "update(1)=8 remove(1) holds(1, 8)=true commit(0)=2 holds(1, 8)=false "
                + "holds(1, 2)=true process(1)=OUT holds(1, 2)=false");
        is("17: not after a refused update", Stages.groupOf(3) + "commit(0)=2 update(1)=STALE holds(1, 12)=false holds(1, 2)=true");
    }

    private static void sentNothing() {
        is("16: a group of one", Stages.FOUNDED + "commit(0)=1 sent(1)=0 commit(0)=2 sent(2)=0 sent(3)=REFUSED");
        is("16: all others are removed", Stages.groupOf(8) + forEach(1, 7, "remove($N)") + "commit(0)=2 sent(2)=0 count(6)=1");
        is("16: EPOCH 1 .. NEWEST", "sent(1)=REFUSED found(0) sent(0)=REFUSED sent(1)=REFUSED commit(0) sent(0)=REFUSED sent(1)=0 "
                + "sent(2)=REFUSED");
    }

    private static void sentAtMost() {
        for (int size = 1; size <= 8; size++) {
            is("16: two for each that is added", Stages.groupOf(size) + "sent(1)=" + 2 * (size - 1));
            is("16: one for each other leaf under BLANK nodes", Stages.groupOf(size) + "commit(0)=2 sent(2)=" + (size - 1));
        }
        is("16: seven removed, seven added", Stages.groupOf(3) + "remove(1) remove(2) "
                + forEach(3, 9, "publish($N) add($N)") + "commit(0)=2 sent(2)=14 count(6)=8");
        is("16: one message for a node that is not BLANK", Stages.groupOf(8) + "commit(7)=2 sent(2)=4 process(0)=2 commit(0)=3 sent(3)=4 "
                + "commit(0)=4 sent(4)=4");
    }

    private static void sentNotToTheAdded() {
        is("16: a leaf added by this commit, and by one before", Stages.groupOf(5) + "remove(0) commit(1)=2 process(4)=2 publish(6)=14 add(6) "
                + "commit(4)=3 sent(3)=3 commit(4)=4 sent(4)=2");
        is("16: beside the committer's leaf", Stages.FOUNDED + "publish(1) add(1) commit(0)=1 sent(1)=2 commit(0)=2 sent(2)=1 commit(1)=STALE "
                + "process(1) commit(1)=3 sent(3)=1");
        is("16: a removed leaf gets none", Stages.groupOf(4) + "remove(2) commit(0)=2 sent(2)=2 commit(0)=3 sent(3)=2");
    }

    /** The listener has the key of one added person only, from before the commit. */
    private static void welcomeToEachAdded() {
        for (int leaked = 1; leaked <= 7; leaked++) {
            String run = Stages.FOUNDED + forEach(1, 7, "publish($N)=$M") + "leak(" + leaked + ")=1 " + forEach(1, 7, "add($N)=$N");
            is("for each person added, the SECRET", run + "commit(0)=1 sent(1)=14 secretHeard(1)=true secretHeard(0)=false count(5)=1 "
                    + "keyHeard(12)=true keyHeard(9)=false");
        }
        is("not to one that is not added", Stages.FOUNDED + "publish(1) publish(2) leak(2)=1 add(1) commit(0)=1 count(4)=1 count(5)=0");
    }

    /** Leaf a of eight is removed and given to person 8, whose key the listener has; leaf c commits and makes 14 .. 17. */
    private static void welcomeWhereThePathsMeet() {
        for (int c = 0; c <= 7; c++) {
            for (int a = 0; a <= 7; a++) {
                if (a != c) {
                    StringBuilder run = new StringBuilder(Stages.groupOf(8)
                            + String.format("publish(8)=13 leak(8)=1 remove(%d) add(8) commit(%d)=2 leaf(8)=%d keyHeard(14)=false ", a, c, a));
                    for (int up = 1; up <= 3; up++) {
                        boolean above = (8 + c) >> up == (8 + a) >> up;
                        run.append(String.format("key(2, %d)=%d keyHeard(%d)=%b ", (8 + c) >> up, 14 + up, 14 + up, above));
                    }
                    is("the lowest node of the PATH that lies ABOVE its leaf", run.toString());
                }
            }
        }
    }

    private static void listenerAtFirst() {
        is("empty at first", Stages.groupOf(8) + "commit(0)=2 count(4)=0 count(5)=0 " + forEach(1, 16, "keyHeard($N)=false")
                + forEach(0, 2, "secretHeard($N)=false"));
    }

    private static void listenerBeforeAndAfterTheMessage() {
        String heard = "keyHeard(2)=true keyHeard(3)=false keyHeard(4)=true keyHeard(5)=true keyHeard(6)=true keyHeard(1)=false "
                + "secretHeard(1)=true secretHeard(0)=false count(4)=4 count(5)=1";
        is("SENT after the leak", Stages.FOUNDED + "publish(1)=2 leak(1)=1 add(1) commit(0)=1 " + heard);
        is("SENT before the leak", Stages.FOUNDED + "publish(1)=2 add(1) commit(0)=1 leak(1)=4 " + heard);
        is("SENT under a KEY that nobody HOLDS any more", Stages.groupOf(2) + "leak(1)=4 commit(0)=2 process(1)=2 commit(0)=3 "
                + "process(1)=3 holds(1, 10)=false keyHeard(10)=true keyHeard(14)=true secretHeard(3)=true");
        is("an update that is left out opens nothing", Stages.groupOf(2) + "update(0)=7 leak(0)=5 commit(0)=2 count(4)=5 count(5)=1 "
                + "secretHeard(2)=false");
    }

    private static void listenerPathFromBelow() {
        // groupOf(4): leaves 5 2 3 4; node 4: 6, 2: 7, 1: 8; leaf 2 (key 3) gets 7 by its welcome, not 6
        is("the next node of the PATH, not the one below", Stages.groupOf(4) + "commit(0)=2 leak(2)=3 keyHeard(7)=true "
                + "keyHeard(8)=true keyHeard(6)=false keyHeard(11)=true keyHeard(12)=true keyHeard(10)=false keyHeard(9)=false "
                + "secretHeard(1)=true secretHeard(2)=true");
        is("the KEY of the committer's leaf is not of the PATH", Stages.groupOf(3) + "update(1)=8 commit(2)=2 process(0)=2 leak(0)=3 "
                + "keyHeard(4)=true keyHeard(5)=false keyHeard(6)=false keyHeard(7)=false count(4)=3");
    }

    private static void listenerSecretNeedsBoth() {
        is("that of EPOCH e - 1 without the root", Stages.groupOf(2) + "leak(0)=4 secretHeard(1)=true commit(0)=2 secretHeard(2)=false "
                + "keyHeard(10)=false count(5)=1");
        // leaf 1's key 7, given in epoch 2, opens the roots 11 and 15 of the epochs 2 and 3
        is("the root without that of EPOCH e - 1", Stages.groupOf(2) + "update(1)=7 commit(0)=2 commit(0)=3 process(1) process(1) "
                + "leak(1)=4 keyHeard(11)=true secretHeard(2)=false secretHeard(3)=true count(5)=1");
        is("then that of EPOCH e - 1", Stages.groupOf(3) + "update(1)=8 remove(2) commit(0)=2 commit(0)=3 process(1) process(1) "
                + "leak(1)=4 keyHeard(12)=true secretHeard(2)=false leak(2)=3 secretHeard(1)=true secretHeard(2)=true secretHeard(0)=false");
        is("then the root", Stages.groupOf(2) + "leak(1)=4 update(1)=7 commit(0)=2 secretHeard(2)=false commit(0)=3 process(1) process(1) "
                + "leak(1)=4 secretHeard(2)=true secretHeard(3)=true count(5)=3");
    }

    private static void listenerToTheLastEpoch() {
        is("as long as it can: leak, then 19 commits", Stages.groupOf(2) + "leak(1)=4 " + "commit(0) ".repeat(19)
                + "count(5)=20 secretHeard(0)=false secretHeard(20)=true secretHeard(21)=false count(4)=61 keyHeard(82)=true");
        is("as long as it can: 19 commits, then leak", Stages.groupOf(2) + "commit(0) ".repeat(19) + "leak(1)=4 "
                + "count(5)=20 secretHeard(0)=false secretHeard(20)=true secretHeard(21)=false count(4)=61 keyHeard(82)=true");
        is("the last SECRET alone", Stages.groupOf(2) + "commit(0) ".repeat(19) + "leak(0)=4 count(5)=1 secretHeard(20)=true "
                + "secretHeard(19)=false");
    }

    private static void lastCallOfAnObject() {
        is("the 512th call", "state(0)=STRANGER ".repeat(511) + "found(0)=1");
        is("the 512th call", Stages.ALL_FULL + "commit(0)=FULL ".repeat(300) + "leak(0)=4 count(4)=4");
        is("many refused calls", "found(0)=1 " + "add(0)=REFUSED remove(1)=REFUSED update(1)=REFUSED process(0)=REFUSED ".repeat(127)
                + "commit(0)=1 count(1)=5 sent(1)=0");
    }
}

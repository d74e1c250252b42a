/**
 * Each promise of the document by hand: ordinary inputs, the edges it names,
 * and wrong inputs. The answers due were worked out from the document's text.
 */
public final class PromisesTest {
    private static final int REFUSED = -1;
    private static final int FULL = -2;
    private static final int STALE = -3;
    private static final int STRANGER = 0;
    private static final int READY = 1;
    private static final int MEMBER = 2;
    private static final int OUT = 3;
    private static final int[] NO_PERSONS = {-1, 10, 11, 16, -10, Integer.MIN_VALUE, Integer.MAX_VALUE};

    private static final Due due = new Due();

    public static void main(String[] args) {
        promise1NewObject();
        promise2Found();
        promise3Publish();
        promise4Add();
        promise4AddFull();
        promise5Remove();
        promise6Update();
        promise7CommitRefusals();
        promise7CommitLimits();
        promise7MiddleTree();
        promise8Process();
        promise8LeafGivenAgain();
        promise9Leak();
        promise10To12Persons();
        promises13To16Tree();
        promise17Holds();
        promises18And19Listener();
        promise18LeafIsNotInPath();
        promise19SecretsNeedTheOneBefore();
        promises18And19LastNumbers();
        promise20Count();
        theOtherEndOfTheTree();
        due.end("PromisesTest");
    }

    /** Persons 0 .. size - 1 at the leaves 0 .. size - 1, all at epoch 1; size + 4 keys made. */
    private static KeyTreeGroup groupOf(int size) {
        KeyTreeGroup x = new KeyTreeGroup();
        x.found(0);
        for (int p = 1; p < size; p++) {
            x.publish(p);
            x.add(p);
        }
        x.commit(0);
        return x;
    }

    private static void allProcess(KeyTreeGroup x, int size) {
        for (int p = 0; p < size; p++) {
            x.process(p);
        }
    }

    /**
     * A group of eight that has made 120 - left keys, all of its members at the
     * newest epoch, with some updates proposed, 7's first and never 0's.
     */
    private static KeyTreeGroup groupShortOfKeys(int left) {
        KeyTreeGroup x = groupOf(8);
        for (int rest = 108 - left; rest > 7; rest = 120 - left - x.count(1)) {
            for (int p = 0; p < 8 && rest > 12; p++) {
                x.update(p);
            }
            x.commit(0);
            allProcess(x, 8);
        }
        for (int p = 7; p > 0 && x.count(1) < 120 - left; p--) {
            x.update(p);
        }
        due.is("keys made by the preparation", x.count(1), 120 - left);
        return x;
    }

    private static void promise1NewObject() {
        KeyTreeGroup x = new KeyTreeGroup();
        for (int p = 0; p < 10; p++) {
            due.is("1: state", x.state(p), STRANGER);
            due.is("1: epoch", x.epoch(p), REFUSED);
            due.is("1: leaf", x.leaf(p), REFUSED);
            due.is("1: holds 0", x.holds(p, 0), false);
            due.is("1: holds 1", x.holds(p, 1), false);
            due.is("1: leak", x.leak(p), 0);
        }
        int[] counts = {-1, 0, 0, 0, 0, 0, 0};
        for (int what = 0; what < counts.length; what++) {
            due.is("1: count " + what, x.count(what), counts[what]);
        }
        due.is("1: key", x.key(0, 1), REFUSED);
        due.is("1: unmerged", x.unmerged(0, 1), REFUSED);
        due.is("1: resolution", x.resolution(0, 1, -1), REFUSED);
        due.is("1: sent", x.sent(0), REFUSED);
        due.is("1: keyHeard", x.keyHeard(1), false);
        due.is("1: secretHeard", x.secretHeard(0), false);
    }

    private static void promise2Found() {
        KeyTreeGroup x = new KeyTreeGroup();
        for (int p : NO_PERSONS) {
            due.is("2: found " + p, x.found(p), REFUSED);
        }
        due.is("2: publish", x.publish(4), 1);
        due.is("2: found by one that is READY", x.found(4), REFUSED);
        due.is("2: no epoch by a refused found", x.count(0), -1);
        due.is("2: no key by a refused found", x.count(1), 1);
        due.is("2: still READY", x.state(4), READY);
        due.is("2: found", x.found(9), 2);
        due.is("2: newest", x.count(0), 0);
        due.is("2: state", x.state(9), MEMBER);
        due.is("2: epoch", x.epoch(9), 0);
        due.is("2: leaf", x.leaf(9), 0);
        for (int node = 1; node <= 15; node++) {
            due.is("2: key of node " + node, x.key(0, node), node == 8 ? 2 : 0);
            due.is("2: unmerged of node " + node, x.unmerged(0, node), 0);
        }
        due.is("2: the founder holds its key", x.holds(9, 2), true);
        due.is("2: found twice", x.found(9), REFUSED);
        due.is("2: found by another", x.found(3), REFUSED);
        due.is("2: the other stays a STRANGER", x.state(3), STRANGER);
        due.is("2: keys", x.count(1), 2);
    }

    private static void promise3Publish() {
        KeyTreeGroup x = groupOf(2);
        for (int p : NO_PERSONS) {
            due.is("3: publish " + p, x.publish(p), REFUSED);
        }
        due.is("3: publish by a MEMBER", x.publish(0), REFUSED);
        due.is("3: publish by an added MEMBER", x.publish(1), REFUSED);
        due.is("3: publish", x.publish(2), 7);
        due.is("3: state", x.state(2), READY);
        due.is("3: publish by one that is READY", x.publish(2), REFUSED);
        due.is("3: no key by a refused publish", x.count(1), 7);
        due.is("3: remove", x.remove(1), 1);
        due.is("3: commit", x.commit(0), 2);
        due.is("3: publish by a MEMBER that lags behind its removal", x.publish(1), REFUSED);
        due.is("3: process", x.process(1), OUT);
        due.is("3: publish by one that is OUT", x.publish(1), 12);
        due.is("3: READY again", x.state(1), READY);
        due.is("3: add again", x.add(1), 1);
        due.is("3: commit again", x.commit(0), 3);
        due.is("3: a MEMBER again", x.state(1), MEMBER);
        due.is("3: at the newest", x.epoch(1), 3);

        KeyTreeGroup one = groupShortOfKeys(1);
        due.is("3: the last key", one.publish(8), 120);
        due.is("3: READY and no key left", one.publish(8), REFUSED);
        due.is("3: MEMBER and no key left", one.publish(0), REFUSED);
        due.is("3: no key left", one.publish(9), FULL);
        due.is("3: a full publish changes nothing", one.state(9), STRANGER);
        due.is("3: keys", one.count(1), 120);
    }

    private static void promise4Add() {
        KeyTreeGroup x = new KeyTreeGroup();
        x.publish(1);
        due.is("4: add without a group", x.add(1), REFUSED);
        x.found(0);
        for (int p : NO_PERSONS) {
            due.is("4: add " + p, x.add(p), REFUSED);
        }
        due.is("4: add a STRANGER", x.add(2), REFUSED);
        due.is("4: add a MEMBER", x.add(0), REFUSED);
        due.is("4: proposals", x.count(2), 0);
        due.is("4: add", x.add(1), 1);
        due.is("4: still READY", x.state(1), READY);
        due.is("4: add twice", x.add(1), REFUSED);
        x.publish(2);
        x.update(0);
        due.is("4: add counts all proposals", x.add(2), 3);
        x.commit(0);
        due.is("4: add one that is a MEMBER now", x.add(1), REFUSED);
        x.remove(1);
        x.commit(0);
        x.process(1);
        due.is("4: add one that is OUT", x.add(1), REFUSED);
    }

    private static void promise4AddFull() {
        KeyTreeGroup x = groupOf(7);
        x.publish(7);
        x.publish(8);
        x.publish(9);
        due.is("4: the last BLANK leaf", x.add(7), 1);
        due.is("4: no leaf for it", x.add(8), FULL);
        due.is("4: proposed already and no leaf", x.add(7), REFUSED);
        due.is("4: no READY one and no leaf", x.add(0), REFUSED);
        due.is("4: proposals", x.count(2), 1);
        due.is("4: a leaf gets free", x.remove(2), 2);
        due.is("4: add to it", x.add(8), 3);
        due.is("4: no leaf for the next", x.add(9), FULL);
        due.is("4: commit", x.commit(0), 2);
        due.is("4: the least BLANK leaf", x.leaf(7), 2);
        due.is("4: the next BLANK leaf", x.leaf(8), 7);
        due.is("4: no BLANK leaf at all", x.add(9), FULL);
        due.is("4: leaves", x.count(6), 8);
    }

    private static void promise5Remove() {
        KeyTreeGroup x = new KeyTreeGroup();
        due.is("5: remove without a group", x.remove(0), REFUSED);
        x = groupOf(3);
        int[] noLeaves = {-1, 8, 9, 40, Integer.MIN_VALUE, Integer.MAX_VALUE};
        for (int leaf : noLeaves) {
            due.is("5: remove " + leaf, x.remove(leaf), REFUSED);
        }
        due.is("5: remove a BLANK leaf", x.remove(3), REFUSED);
        due.is("5: remove the last leaf, BLANK", x.remove(7), REFUSED);
        x.publish(3);
        x.add(3);
        due.is("5: remove a leaf that is proposed to be given", x.remove(3), REFUSED);
        due.is("5: remove", x.remove(1), 2);
        due.is("5: remove twice", x.remove(1), REFUSED);
        due.is("5: remove leaf 0", x.remove(0), 3);
        due.is("5: the tree is as before", x.key(1, 9), 2);
        due.is("5: commit", x.commit(2), 2);
        due.is("5: leaves", x.count(6), 2);
        due.is("5: the leaf is BLANK", x.key(2, 9), 0);
        due.is("5: remove a BLANK leaf whose MEMBER lags behind", x.remove(1), REFUSED);
        due.is("5: remove a leaf that was given again", x.remove(0), 1);
    }

    private static void promise6Update() {
        KeyTreeGroup x = groupOf(3);
        for (int p : NO_PERSONS) {
            due.is("6: update " + p, x.update(p), REFUSED);
        }
        due.is("6: update by a STRANGER", x.update(5), REFUSED);
        x.publish(5);
        due.is("6: update by one that is READY", x.update(5), REFUSED);
        due.is("6: update", x.update(1), 9);
        due.is("6: update twice", x.update(1), REFUSED);
        due.is("6: proposals", x.count(2), 1);
        due.is("6: keys", x.count(1), 9);
        due.is("6: commit", x.commit(0), 2);
        due.is("6: the leaf's key", x.key(2, 9), 9);
        due.is("6: STALE", x.update(1), STALE);
        due.is("6: no key by a stale update", x.count(1), 13);
        x.process(1);
        due.is("6: update again", x.update(1), 14);
        x.remove(2);
        x.commit(0);
        x.process(2);
        due.is("6: update by one that lags behind", x.update(2), STALE);
        x.process(2);
        due.is("6: update by one that is OUT", x.update(2), REFUSED);

        KeyTreeGroup full = groupShortOfKeys(0);
        due.is("6: proposed already and no key left", full.update(7), REFUSED);
        due.is("6: no key left", full.update(0), FULL);
        KeyTreeGroup stale = groupShortOfKeys(16);
        stale.commit(0);
        stale.process(1);
        due.is("6: keys left", stale.update(0), 109);
        for (int p = 8; p < 10; p++) {
            stale.publish(p);
        }
        due.is("6: keys", stale.count(1), 111);
        stale.commit(0);
        stale.commit(0);
        due.is("6: keys", stale.count(1), 119);
        due.is("6: the last key", stale.update(0), 120);
        due.is("6: STALE and no key left", stale.update(1), STALE);
    }

    private static void promise7CommitRefusals() {
        KeyTreeGroup x = new KeyTreeGroup();
        due.is("7: commit without a group", x.commit(0), REFUSED);
        x = groupOf(4);
        for (int p : NO_PERSONS) {
            due.is("7: commit " + p, x.commit(p), REFUSED);
        }
        due.is("7: commit by a STRANGER", x.commit(6), REFUSED);
        x.publish(6);
        due.is("7: commit by one that is READY", x.commit(6), REFUSED);
        x.add(6);
        due.is("7: commit by one that is proposed", x.commit(6), REFUSED);
        x.remove(3);
        due.is("7: commit by one that is to be removed", x.commit(3), REFUSED);
        due.is("7: proposals", x.count(2), 2);
        due.is("7: commit", x.commit(1), 2);
        due.is("7: no proposals any more", x.count(2), 0);
        due.is("7: the committer has come to it", x.epoch(1), 2);
        due.is("7: the added one too", x.epoch(6), 2);
        due.is("7: the added one is a MEMBER", x.state(6), MEMBER);
        due.is("7: the added one has the leaf that got free", x.leaf(6), 3);
        due.is("7: others stay", x.epoch(0), 1);
        due.is("7: the removed one stays", x.state(3), MEMBER);
        due.is("7: STALE", x.commit(0), STALE);
        due.is("7: the removed one is STALE", x.commit(3), STALE);
        x.remove(3);
        due.is("7: its old leaf is to be removed again: REFUSED before STALE", x.commit(3), REFUSED);
        x.remove(0);
        due.is("7: STALE and to be removed", x.commit(0), REFUSED);
        due.is("7: an empty commit's epoch", groupOf(1).commit(0), 2);
    }

    private static void promise7CommitLimits() {
        KeyTreeGroup x = groupOf(2);
        for (int e = 2; e <= 20; e++) {
            due.is("7: commit", x.commit(0), e);
        }
        x.publish(2);
        x.add(2);
        due.is("7: the newest is 20", x.commit(0), FULL);
        due.is("7: STALE and the newest is 20", x.commit(1), STALE);
        due.is("7: no MEMBER and the newest is 20", x.commit(2), REFUSED);
        due.is("7: a full commit leaves the proposals", x.count(2), 1);
        due.is("7: a full commit makes no key", x.count(1), 83);
        due.is("7: a full commit makes no epoch", x.count(0), 20);
        due.is("7: a full commit adds nobody", x.state(2), READY);

        KeyTreeGroup four = groupShortOfKeys(4);
        int before = four.count(0);
        due.is("7: 116 keys", four.commit(0), before + 1);
        due.is("7: the root's key", four.key(before + 1, 1), 120);
        due.is("7: 120 keys", four.commit(0), FULL);
        KeyTreeGroup three = groupShortOfKeys(3);
        due.is("7: 117 keys", three.commit(0), FULL);
        due.is("7: 117 keys, nothing done", three.count(1), 117);
    }

    private static void promise7MiddleTree() {
        KeyTreeGroup x = groupOf(6);
        x.commit(4);
        allProcess(x, 6);
        // leaves 8 .. 13: 7 2 3 4 11 6; node 4: 8, 2: 9, 6: 12, 3: 13, 1: 14; 5 and 7 BLANK
        due.is("7: update", x.update(4), 15);
        due.is("7: update of the committer", x.update(0), 16);
        due.is("7: update of one that is removed too", x.update(1), 17);
        x.remove(1);
        x.publish(7);
        x.add(7);
        x.publish(6);
        x.add(6);
        due.is("7: commit", x.commit(0), 3);
        int[] keys = {0, 23, 22, 0, 21, 0, 0, 0, 20, 18, 3, 4, 15, 6, 19, 0};
        for (int node = 1; node <= 15; node++) {
            due.is("7: key of node " + node, x.key(3, node), keys[node]);
            due.is("7: unmerged of node " + node, x.unmerged(3, node), 0);
        }
        due.is("7: the first add gets the least leaf", x.leaf(7), 1);
        due.is("7: the second add gets the next leaf", x.leaf(6), 6);
        // node 9 and node 14 are added now; node 5 gives 10 and 11, node 3 gives 12 and 13; two welcomes
        due.is("7: sent", x.sent(3), 8);
        due.is("7: the tree of the epoch before is as it was", x.key(2, 9), 2);
        due.is("7: and its nodes above", x.key(2, 3), 13);
        due.is("7: the removed one is OUT, though its leaf is given", x.process(1), OUT);
        due.is("7: the updated one goes on", x.process(4), 3);
        due.is("7: the committer's update is gone", x.holds(0, 16), false);
        due.is("7: update again after the commit", x.update(0), 24);
    }

    private static void promise8Process() {
        KeyTreeGroup x = groupOf(3);
        for (int p : NO_PERSONS) {
            due.is("8: process " + p, x.process(p), REFUSED);
        }
        due.is("8: process by a STRANGER", x.process(5), REFUSED);
        x.publish(5);
        due.is("8: process by one that is READY", x.process(5), REFUSED);
        due.is("8: process at the newest", x.process(1), REFUSED);
        x.commit(0);
        x.remove(1);
        x.commit(0);
        x.commit(0);
        due.is("8: the committer is at the newest", x.process(0), REFUSED);
        due.is("8: one step", x.process(1), 2);
        due.is("8: still a MEMBER", x.state(1), MEMBER);
        due.is("8: its epoch", x.epoch(1), 2);
        due.is("8: its leaf was removed", x.process(1), OUT);
        due.is("8: it is OUT", x.state(1), OUT);
        due.is("8: no epoch any more", x.epoch(1), REFUSED);
        due.is("8: no leaf any more", x.leaf(1), REFUSED);
        due.is("8: process by one that is OUT", x.process(1), REFUSED);
        for (int e = 2; e <= 4; e++) {
            due.is("8: another's step", x.process(2), e);
        }
        due.is("8: another at the newest", x.process(2), REFUSED);
    }

    private static void promise8LeafGivenAgain() {
        KeyTreeGroup x = groupOf(3);
        x.remove(1);
        x.publish(5);
        x.add(5);
        x.commit(0);
        due.is("8: the leaf is given in the same commit", x.leaf(5), 1);
        due.is("8: two MEMBERS say this leaf", x.leaf(1), 1);
        due.is("8: the old one holds its old key", x.holds(1, 2), true);
        due.is("8: the old one does not hold the new one's", x.holds(1, 8), false);
        x.commit(0);
        due.is("8: the new one goes on", x.process(5), 3);
        due.is("8: the old one is OUT", x.process(1), OUT);
        due.is("8: the new one is not", x.state(5), MEMBER);
        x.publish(1);
        x.add(1);
        x.commit(0);
        due.is("8: the old one comes again at another leaf", x.leaf(1), 3);
        x.commit(0);
        due.is("8: and is not removed by what was before", x.process(1), 5);
    }

    private static void promise9Leak() {
        KeyTreeGroup x = groupOf(3);
        for (int p : NO_PERSONS) {
            due.is("9: leak " + p, x.leak(p), REFUSED);
        }
        due.is("9: leak of a STRANGER", x.leak(7), 0);
        x.publish(7);
        due.is("9: leak of one that is READY", x.leak(7), 1);
        due.is("9: its key is heard", x.keyHeard(8), true);
        due.is("9: no secret with it", x.count(5), 0);
        // person 2 at leaf 2: key 3, node 5 BLANK, node 2: 6, node 1: 7
        due.is("9: leak of a MEMBER", x.leak(2), 3);
        due.is("9: the secret with it", x.secretHeard(1), true);
        due.is("9: leak again", x.leak(2), 0);
        due.is("9: only what was not known", x.leak(1), 2);
        due.is("9: update", x.update(1), 9);
        due.is("9: the update's key", x.leak(1), 1);
        due.is("9: it is heard", x.keyHeard(9), true);
        x.remove(2);
        x.commit(0);
        x.process(2);
        due.is("9: leak of one that is OUT", x.leak(2), 0);
        // person 1's update is known: so are the keys of its way up, 11, 12 and 13
        due.is("9: keys known", x.count(4), 10);
        due.is("9: only the committer's leaf is new", x.leak(0), 1);

        KeyTreeGroup lag = groupOf(2);
        lag.commit(0);
        lag.commit(0);
        due.is("9: what it holds, not what grows from it", lag.leak(1), 4);
        due.is("9: it has grown", lag.count(4), 10);
        due.is("9: the secrets too", lag.count(5), 3);
        due.is("9: nothing new for it", lag.leak(1), 0);
    }

    private static void promise10To12Persons() {
        KeyTreeGroup x = groupOf(2);
        for (int p : NO_PERSONS) {
            due.is("10: state " + p, x.state(p), REFUSED);
            due.is("11: epoch " + p, x.epoch(p), REFUSED);
            due.is("12: leaf " + p, x.leaf(p), REFUSED);
        }
        x.publish(9);
        due.is("10: STRANGER", x.state(2), STRANGER);
        due.is("10: READY", x.state(9), READY);
        due.is("10: MEMBER", x.state(1), MEMBER);
        due.is("11: a STRANGER's epoch", x.epoch(2), REFUSED);
        due.is("11: a READY one's epoch", x.epoch(9), REFUSED);
        due.is("12: a STRANGER's leaf", x.leaf(2), REFUSED);
        due.is("12: a READY one's leaf", x.leaf(9), REFUSED);
        x.add(9);
        x.remove(1);
        x.commit(0);
        due.is("10: MEMBER until it processes", x.state(1), MEMBER);
        due.is("11: the removed one's epoch", x.epoch(1), 1);
        due.is("11: the committer's epoch", x.epoch(0), 2);
        due.is("11: the added one's epoch", x.epoch(9), 2);
        due.is("12: the removed one's leaf", x.leaf(1), 1);
        due.is("12: the added one's leaf", x.leaf(9), 1);
        due.is("12: the founder's leaf", x.leaf(0), 0);
        x.process(1);
        due.is("10: OUT", x.state(1), OUT);
        due.is("11: its epoch", x.epoch(1), REFUSED);
        due.is("12: its leaf", x.leaf(1), REFUSED);
        x.publish(1);
        due.is("10: READY again", x.state(1), READY);
        due.is("11: READY again", x.epoch(1), REFUSED);
        due.is("12: READY again", x.leaf(1), REFUSED);
    }

    private static void treeRow(KeyTreeGroup x, int epoch, int... keys) {
        for (int node = 1; node <= 15; node++) {
            due.is("13: key(" + epoch + ", " + node + ")", x.key(epoch, node), keys[node - 1]);
        }
    }

    private static void resolutionRow(KeyTreeGroup x, int epoch, int node, int... nodes) {
        String call = "15: resolution(" + epoch + ", " + node + ", ";
        due.is(call + "-1)", x.resolution(epoch, node, -1), nodes.length);
        for (int i = 0; i < nodes.length; i++) {
            due.is(call + i + ")", x.resolution(epoch, node, i), nodes[i]);
        }
        due.is(call + nodes.length + ")", x.resolution(epoch, node, nodes.length), REFUSED);
    }

    private static void promises13To16Tree() {
        KeyTreeGroup x = groupOf(4);
        due.is("16: three welcomes", x.sent(1), 6);
        due.is("7: commit", x.commit(2), 2);
        due.is("16: a leaf and a node", x.sent(2), 2);
        x.publish(4);
        x.add(4);
        x.process(0);
        due.is("7: commit", x.commit(0), 3);
        due.is("16: a leaf, a node and a welcome", x.sent(3), 4);
        due.is("7: commit", x.commit(4), 4);
        due.is("16: the other half's node alone", x.sent(4), 1);
        x.publish(5);
        x.add(5);
        x.process(0);
        due.is("7: commit", x.commit(0), 5);
        due.is("16: none for the added leaf but its welcome", x.sent(5), 5);
        due.is("7: commit", x.commit(0), 6);
        due.is("16: one for the UNMERGED leaf", x.sent(6), 4);
        x.publish(6);
        x.add(6);
        due.is("7: commit", x.commit(0), 7);
        due.is("16: one UNMERGED leaf is added now, one is not", x.sent(7), 6);
        x.remove(4);
        due.is("7: commit", x.commit(0), 8);
        due.is("16: a BLANK node's leaves", x.sent(8), 4);
        treeRow(x, 2, 12, 11, 0, 6, 10, 0, 0, 5, 2, 9, 4, 0, 0, 0, 0);
        treeRow(x, 5, 26, 25, 20, 24, 10, 19, 0, 23, 2, 9, 4, 18, 22, 0, 0);
        treeRow(x, 7, 35, 34, 20, 33, 10, 19, 0, 32, 2, 9, 4, 18, 22, 31, 0);
        treeRow(x, 8, 39, 38, 0, 37, 10, 0, 0, 36, 2, 9, 4, 0, 22, 31, 0);
        for (int node = 1; node <= 15; node++) {
            due.is("14: unmerged(4, " + node + ")", x.unmerged(4, node), 0);
            due.is("14: unmerged(6, " + node + ")", x.unmerged(6, node), node == 3 || node == 6 ? 32 : 0);
            due.is("14: unmerged(7, " + node + ")", x.unmerged(7, node), node == 3 ? 96 : node == 6 ? 32 : 0);
            due.is("14: unmerged(8, " + node + ")", x.unmerged(8, node), 0);
        }
        resolutionRow(x, 7, 1, 1);
        resolutionRow(x, 7, 3, 3, 13, 14);
        resolutionRow(x, 7, 6, 6, 13);
        resolutionRow(x, 7, 7, 14);
        resolutionRow(x, 7, 13, 13);
        resolutionRow(x, 7, 15);
        resolutionRow(x, 8, 3, 13, 14);
        resolutionRow(x, 1, 5, 10, 11);
        resolutionRow(x, 1, 3);
        due.is("17: the UNMERGED one does not hold", x.holds(5, 20), false);
        wrongNumbersOfTheTree(x);
    }

    private static void wrongNumbersOfTheTree(KeyTreeGroup x) {
        int[] noEpochs = {-1, 9, 20, 21, Integer.MIN_VALUE, Integer.MAX_VALUE};
        int[] noNodes = {0, -1, 16, 17, Integer.MIN_VALUE, Integer.MAX_VALUE};
        for (int e : noEpochs) {
            due.is("13: epoch " + e, x.key(e, 8), REFUSED);
            due.is("14: epoch " + e, x.unmerged(e, 8), REFUSED);
            due.is("15: epoch " + e, x.resolution(e, 8, -1), REFUSED);
            due.is("16: epoch " + e, x.sent(e), REFUSED);
        }
        for (int node : noNodes) {
            due.is("13: node " + node, x.key(8, node), REFUSED);
            due.is("14: node " + node, x.unmerged(8, node), REFUSED);
            due.is("15: node " + node, x.resolution(8, node, -1), REFUSED);
        }
        due.is("15: i = -2", x.resolution(8, 1, -2), REFUSED);
        due.is("15: the least i", x.resolution(8, 1, Integer.MIN_VALUE), REFUSED);
        due.is("15: the greatest i", x.resolution(8, 1, Integer.MAX_VALUE), REFUSED);
        due.is("16: epoch 0 had no commit", x.sent(0), REFUSED);
        due.is("16: the newest", x.sent(8), 4);
    }

    private static void heldRow(KeyTreeGroup x, int person, int... keys) {
        for (int k = -1; k <= 122; k++) {
            boolean want = false;
            for (int one : keys) {
                want |= one == k;
            }
            due.is("17: holds(" + person + ", " + k + ")", x.holds(person, k), want);
        }
    }

    private static void promise17Holds() {
        KeyTreeGroup x = groupOf(3);
        heldRow(x, 0, 4, 5, 6, 7);
        heldRow(groupOf(3), 2, 3, 6, 7);
        x.publish(8);
        due.is("17: a READY one", x.holds(8, 8), true);
        due.is("17: a STRANGER", x.holds(9, 8), false);
        x.update(1);
        due.is("17: its update", x.holds(1, 9), true);
        due.is("17: its leaf's key still", x.holds(1, 2), true);
        due.is("17: another's update", x.holds(0, 9), false);
        x.add(8);
        x.remove(2);
        x.commit(0);
        // leaves 8 .. 10: 10 9 8; nodes 4, 2, 1: 11 12 13
        due.is("17: the update is no proposal any more", x.holds(1, 9), false);
        due.is("17: it lags behind", x.holds(1, 2), true);
        due.is("17: the removed one holds what it held", x.holds(2, 6), true);
        due.is("17: but nothing new", x.holds(2, 12), false);
        due.is("17: the added one", x.holds(8, 8), true);
        due.is("17: and the way up", x.holds(8, 12), true);
        due.is("17: not beside it", x.holds(8, 11), false);
        x.process(1);
        due.is("17: the update is its leaf's key", x.holds(1, 9), true);
        due.is("17: the old key is gone", x.holds(1, 2), false);
        x.process(2);
        due.is("17: OUT", x.holds(2, 6), false);
        due.is("17: 0 is no key", x.holds(8, 0), false);
        for (int p : NO_PERSONS) {
            due.is("17: holds " + p, x.holds(p, 8), false);
        }
        due.is("17: no such key", x.holds(8, 121), false);
        due.is("17: the least number", x.holds(8, Integer.MIN_VALUE), false);
        due.is("17: the greatest number", x.holds(8, Integer.MAX_VALUE), false);
    }

    private static void promises18And19Listener() {
        KeyTreeGroup x = groupOf(4);
        x.publish(5);
        x.leak(5);
        due.is("18: the READY one's key", x.keyHeard(9), true);
        x.add(5);
        x.commit(0);
        // leaf 4: 9; leaf 8: 10; nodes 4, 2, 1: 11 12 13; the welcome sends 13 and the secret
        due.is("18: sent under the key later", x.keyHeard(13), true);
        due.is("18: not beside it", x.keyHeard(12), false);
        due.is("18: nor below", x.keyHeard(11), false);
        due.is("19: the secret of the welcome", x.secretHeard(2), true);
        due.is("19: not the one before", x.secretHeard(1), false);
        x.process(2);
        x.commit(2);
        // leaf 10: 14; nodes 5, 2, 1: 15 16 17; 17 is sent under the key of leaf 4
        due.is("18: the root again", x.keyHeard(17), true);
        due.is("18: no more", x.count(4), 3);
        due.is("19: from the secret before and the root", x.secretHeard(3), true);
        x.process(1);
        due.is("9: leak", x.leak(1), 3);
        // 2 and 11, 12 by holding (13 was known); 5's way: 6, 7, 8 of epoch 1; 16 under 11
        due.is("18: of an old commit", x.keyHeard(6), true);
        due.is("18: the next of its path", x.keyHeard(8), true);
        due.is("18: of a later commit", x.keyHeard(16), true);
        due.is("18: not the other side's", x.keyHeard(15), false);
        due.is("18: not a committer's leaf", x.keyHeard(14), false);
        due.is("18: keys", x.count(4), 10);
        due.is("19: the welcome of epoch 1 had it", x.secretHeard(1), true);
        due.is("19: not that of epoch 0", x.secretHeard(0), false);
        int[] noKeys = {0, -1, 18, 120, 121, Integer.MIN_VALUE, Integer.MAX_VALUE};
        for (int k : noKeys) {
            due.is("18: keyHeard " + k, x.keyHeard(k), false);
        }
        int[] noEpochs = {-1, 4, 20, 21, Integer.MIN_VALUE, Integer.MAX_VALUE};
        for (int e : noEpochs) {
            due.is("19: secretHeard " + e, x.secretHeard(e), false);
        }
    }

    /** The document calls the nodes above the committer's leaf the path, not the leaf. */
    private static void promise18LeafIsNotInPath() {
        KeyTreeGroup x = groupOf(3);
        // leaves: 4 2 3; nodes 4, 2, 1: 5 6 7
        x.update(1);
        x.commit(2);
        // leaf 9: 8; leaf 10: 9; nodes 5, 2, 1: 10 11 12; node 4 BLANK
        x.process(0);
        due.is("18: the leaf, node 2 and the root", x.leak(0), 3);
        due.is("18: the leaf's key of epoch 1", x.keyHeard(4), true);
        due.is("18: not node 4's of the same commit", x.keyHeard(5), false);
        due.is("18: nor the root's", x.keyHeard(7), false);
        due.is("18: keys", x.count(4), 3);
        due.is("19: secrets", x.count(5), 1);
    }

    private static void promise19SecretsNeedTheOneBefore() {
        KeyTreeGroup x = groupOf(2);
        x.update(1);
        x.leak(1);
        // person 1: 2, 4, 5, 6, 7
        x.update(0);
        x.commit(1);
        // leaf 8: 8; leaf 9: 9; nodes 4, 2, 1: 10 11 12, sent under 8
        due.is("19: epoch 1", x.secretHeard(1), true);
        due.is("19: the secret before without the root", x.secretHeard(2), false);
        x.commit(1);
        // leaf 9: 13; nodes 14 15 16, sent under 8
        x.process(0);
        x.process(0);
        due.is("9: leak", x.leak(0), 4);
        // leaf 8: 8 opens node 4 of epoch 2 and of epoch 3
        due.is("19: the one it came to", x.secretHeard(3), true);
        due.is("19: worked out of epoch 1 and the root of epoch 2", x.secretHeard(2), true);
        due.is("19: never backwards", x.secretHeard(0), false);

        KeyTreeGroup root = groupOf(2);
        root.commit(0);
        root.publish(5);
        root.add(5);
        root.commit(0);
        due.is("9: leak of the new one", root.leak(5), 3);
        due.is("19: its secret", root.secretHeard(3), true);
        due.is("19: not the one before", root.secretHeard(2), false);
        due.is("19: one secret", root.count(5), 1);
        KeyTreeGroup founder = new KeyTreeGroup();
        founder.found(3);
        due.is("9: leak of the founder", founder.leak(3), 1);
        due.is("19: epoch 0", founder.secretHeard(0), true);
        founder.commit(3);
        due.is("19: the new leaf shuts the listener out", founder.secretHeard(1), false);
    }

    private static void promises18And19LastNumbers() {
        KeyTreeGroup keys = groupShortOfKeys(1);
        keys.publish(8);
        due.is("9: leak of the last key", keys.leak(8), 1);
        due.is("18: the last key", keys.keyHeard(120), true);
        due.is("18: the one before", keys.keyHeard(119), false);
        due.is("20: one key", keys.count(4), 1);
        KeyTreeGroup epochs = groupOf(2);
        while (epochs.commit(0) > 0) {
            due.is("19: not yet", epochs.secretHeard(epochs.count(0)), false);
        }
        due.is("9: leak", epochs.leak(0), 4);
        due.is("19: the last epoch", epochs.secretHeard(20), true);
        due.is("19: the one before", epochs.secretHeard(19), false);

        KeyTreeGroup meeting = groupOf(2);
        meeting.publish(5);
        meeting.leak(5);
        meeting.add(5);
        meeting.commit(0);
        // leaf 10: 7; leaf 8: 8; nodes 4, 2, 1: 9 10 11; they meet at node 2
        due.is("18: the lowest node of the path above it", meeting.keyHeard(10), true);
        due.is("18: the next", meeting.keyHeard(11), true);
        due.is("18: none below", meeting.keyHeard(9), false);
    }

    private static void theOtherEndOfTheTree() {
        KeyTreeGroup x = groupOf(8);
        due.is("7: the last leaf commits", x.commit(7), 2);
        due.is("13: the last node", x.key(2, 15), 13);
        due.is("13: and above it", x.key(2, 7), 14);
        due.is("5: a leaf below 0", x.remove(-1), REFUSED);
        due.is("5: a leaf above 7", x.remove(8), REFUSED);
        due.is("20: no proposal of that", x.count(2), 0);
        x.publish(8);
        x.remove(0);
        x.add(8);
        due.is("7: commit", x.commit(7), 3);
        due.is("12: leaf 0 is given again", x.leaf(8), 0);
        // 14; 12 and 13; 9, 10 and 11 but not 8, which is added; a welcome
        due.is("16: sent", x.sent(3), 8);
        due.is("7: leaf 0 commits", x.commit(8), 4);
        due.is("13: the last node stays", x.key(4, 15), 18);
        due.is("13: the first leaf", x.key(4, 8), 22);
        due.is("13: the root", x.key(4, 1), 25);
        due.is("8: the founder goes on", x.process(0), 2);
        due.is("8: the founder is OUT", x.process(0), OUT);
    }

    private static void promise20Count() {
        KeyTreeGroup x = groupOf(5);
        x.publish(5);
        x.add(5);
        x.remove(1);
        x.remove(2);
        x.update(3);
        int[] before = {1, 11, 4, 5, 0, 0, 5};
        for (int what = 0; what < before.length; what++) {
            due.is("20: count " + what, x.count(what), before[what]);
        }
        x.commit(0);
        x.leak(3);
        int[] after = {2, 15, 0, 6, 3, 1, 4};
        for (int what = 0; what < after.length; what++) {
            due.is("20: count after " + what, x.count(what), after[what]);
        }
        x.process(1);
        due.is("20: members", x.count(3), 5);
        int[] others = {-1, 7, 8, -2, Integer.MIN_VALUE, Integer.MAX_VALUE};
        for (int what : others) {
            due.is("20: count " + what, x.count(what), -2);
        }
    }
}

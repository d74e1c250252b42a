/**
 * A group that agrees on a new secret with every change of its members, and a
 * listener who works out what it can from what some member holds.
 */
public final class KeyTreeGroup {
    public static final int OK = 0;
    public static final int REFUSED = -1;
    public static final int FULL = -2;
    public static final int STALE = -3;
    public static final int STRANGER = 0;
    public static final int READY = 1;
    public static final int MEMBER = 2;
    public static final int OUT = 3;

    private static final int PERSONS = 10;
    private static final int LEAVES = 8;
    private static final int ROOT = 1;
    private static final int FIRST_LEAF_NODE = 8;
    private static final int LAST_NODE = 15;
    private static final int KEY_LIMIT = 120;
    private static final int EPOCH_LIMIT = 20;
    private static final int KEYS_OF_A_COMMIT = 4;
    private static final int NO_KEY = 0;
    private static final int NO_GROUP = -1;
    private static final int NO_SUCH_COUNT = -2;

    /** What a message carries if it is no key: no key has this number. */
    private static final int THE_SECRET = 0;

    /**
     * A commit sends at most one message for each leaf but the committer's,
     * and one more for each leaf that it adds.
     */
    private static final int MESSAGES_OF_A_COMMIT = 2 * LEAVES;

    /** A leaf, the three nodes above it, and an update. */
    private static final int KEYS_OF_A_MEMBER = 5;

    private final Person[] persons;
    private final Epoch[] epochs;
    private final Listener listener;
    private final Row updaters;
    private final Row leavingLeaves;
    private final Row joiners;
    private final Row resolved;
    private final Row held;
    private int newest;
    private int keysMade;

    public KeyTreeGroup() {
        persons = new Person[PERSONS];
        for (int p = 0; p < PERSONS; p++) {
            persons[p] = new Person();
        }
        epochs = new Epoch[EPOCH_LIMIT + 1];
        listener = new Listener();
        updaters = new Row(PERSONS);
        leavingLeaves = new Row(LEAVES);
        joiners = new Row(PERSONS);
        resolved = new Row(LAST_NODE);
        held = new Row(KEYS_OF_A_MEMBER);
        newest = NO_GROUP;
        keysMade = 0;
    }

    public int found(int person) {
        Person founder = personNumbered(person);
        if (founder == null || newest != NO_GROUP || founder.standing == READY) {
            return REFUSED;
        }
        Epoch first = new Epoch(FIRST_LEAF_NODE);
        int made = makeKey();
        first.tree.giveKey(FIRST_LEAF_NODE, made);
        newest = 0;
        epochs[newest] = first;
        founder.join(0, newest);
        return made;
    }

    public int publish(int person) {
        Person who = personNumbered(person);
        if (who == null || who.standing == READY || who.standing == MEMBER) {
            return REFUSED;
        }
        if (keysMade >= KEY_LIMIT) {
            return FULL;
        }
        who.standing = READY;
        who.publishedKey = makeKey();
        return who.publishedKey;
    }

    public int add(int person) {
        Person who = personNumbered(person);
        Epoch last = epochNumbered(newest);
        if (who == null || last == null || who.standing != READY || joiners.contains(person)) {
            return REFUSED;
        }
        int blankLeaves = LEAVES - last.tree.usedLeaves();
        if (blankLeaves + leavingLeaves.size <= joiners.size) {
            return FULL;
        }
        joiners.append(person);
        return proposalsNow();
    }

    public int remove(int leaf) {
        Epoch last = epochNumbered(newest);
        if (leaf < 0 || leaf >= LEAVES || last == null) {
            return REFUSED;
        }
        if (last.tree.isBlank(nodeOfLeaf(leaf)) || leavingLeaves.contains(leaf)) {
            return REFUSED;
        }
        leavingLeaves.append(leaf);
        return proposalsNow();
    }

    public int update(int person) {
        Person who = personNumbered(person);
        if (who == null || who.standing != MEMBER || updaters.contains(person)) {
            return REFUSED;
        }
        if (who.reached != newest) {
            return STALE;
        }
        if (keysMade >= KEY_LIMIT) {
            return FULL;
        }
        updaters.append(person);
        who.updateKey = makeKey();
        return who.updateKey;
    }

    public int commit(int person) {
        Person who = personNumbered(person);
        Epoch last = epochNumbered(newest);
        if (who == null || last == null || who.standing != MEMBER || leavingLeaves.contains(who.seat)) {
            return REFUSED;
        }
        if (who.reached != newest) {
            return STALE;
        }
        if (newest >= EPOCH_LIMIT || keysMade > KEY_LIMIT - KEYS_OF_A_COMMIT) {
            return FULL;
        }
        Epoch next = new Epoch(nodeOfLeaf(who.seat));
        next.tree.copyFrom(last.tree);
        newest++;
        epochs[newest] = next;
        applyUpdates(next, person);
        applyRemoves(next);
        applyAdds(next);
        renewPath(next);
        sendToGroup(next);
        sendWelcomes(next);
        who.reached = newest;
        clearProposals();
        growListener();
        return newest;
    }

    public int process(int person) {
        Person who = personNumbered(person);
        if (who == null || who.standing != MEMBER) {
            return REFUSED;
        }
        Epoch next = epochNumbered(who.reached + 1);
        if (next == null) {
            return REFUSED;
        }
        if (next.hasRemoved(who.seat)) {
            who.standing = OUT;
            return OUT;
        }
        who.reached++;
        return who.reached;
    }

    public int leak(int person) {
        Person who = personNumbered(person);
        if (who == null) {
            return REFUSED;
        }
        int before = listener.keysHeard;
        gatherHeld(who);
        for (int i = 0; i < held.size; i++) {
            listener.hearKey(held.at(i));
        }
        int fresh = listener.keysHeard - before;
        if (who.standing == MEMBER) {
            listener.hearSecret(who.reached);
        }
        growListener();
        return fresh;
    }

    public int state(int person) {
        Person who = personNumbered(person);
        return who == null ? REFUSED : who.standing;
    }

    public int epoch(int person) {
        Person who = personNumbered(person);
        return who == null || who.standing != MEMBER ? REFUSED : who.reached;
    }

    public int leaf(int person) {
        Person who = personNumbered(person);
        return who == null || who.standing != MEMBER ? REFUSED : who.seat;
    }

    public int key(int epoch, int node) {
        Epoch asked = epochNumbered(epoch);
        return asked == null || !isNode(node) ? REFUSED : asked.tree.keyAt(node);
    }

    public int unmerged(int epoch, int node) {
        Epoch asked = epochNumbered(epoch);
        return asked == null || !isNode(node) ? REFUSED : asked.tree.unmergedAt(node);
    }

    public int resolution(int epoch, int node, int i) {
        Epoch asked = epochNumbered(epoch);
        if (asked == null || !isNode(node) || i < -1) {
            return REFUSED;
        }
        resolved.clear();
        resolve(asked.tree, node, resolved);
        if (i == -1) {
            return resolved.size;
        }
        return i < resolved.size ? resolved.at(i) : REFUSED;
    }

    public int sent(int epoch) {
        Epoch asked = epochNumbered(epoch);
        return asked == null || epoch == 0 ? REFUSED : asked.carried.size;
    }

    public boolean holds(int person, int key) {
        Person who = personNumbered(person);
        if (who == null) {
            return false;
        }
        gatherHeld(who);
        return held.contains(key);
    }

    public boolean keyHeard(int key) {
        return listener.hasKey(key);
    }

    public boolean secretHeard(int epoch) {
        return listener.hasSecret(epoch);
    }

    public int count(int what) {
        switch (what) {
            case 0:
                return newest;
            case 1:
                return keysMade;
            case 2:
                return proposalsNow();
            case 3:
                return membersNow();
            case 4:
                return listener.keysHeard;
            case 5:
                return listener.secretsHeard;
            case 6:
                return usedLeavesNow();
            default:
                return NO_SUCH_COUNT;
        }
    }

    private static boolean isNode(int node) {
        return node >= ROOT && node <= LAST_NODE;
    }

    private static int nodeOfLeaf(int leaf) {
        return FIRST_LEAF_NODE + leaf;
    }

    private static int parentOf(int node) {
        return node >> 1;
    }

    private static int siblingOf(int node) {
        return node ^ 1;
    }

    private Person personNumbered(int person) {
        return person >= 0 && person < PERSONS ? persons[person] : null;
    }

    private Epoch epochNumbered(int number) {
        return number >= 0 && number <= newest ? epochs[number] : null;
    }

    private int makeKey() {
        keysMade++;
        return keysMade;
    }

    private int proposalsNow() {
        return updaters.size + leavingLeaves.size + joiners.size;
    }

    private int membersNow() {
        int members = 0;
        for (int p = 0; p < PERSONS; p++) {
            Person who = personNumbered(p);
            if (who != null && who.standing == MEMBER) {
                members++;
            }
        }
        return members;
    }

    private int usedLeavesNow() {
        Epoch last = epochNumbered(newest);
        return last == null ? 0 : last.tree.usedLeaves();
    }

    private void applyUpdates(Epoch next, int committer) {
        for (int i = 0; i < updaters.size; i++) {
            Person who = personNumbered(updaters.at(i));
            if (who != null && updaters.at(i) != committer) {
                int node = nodeOfLeaf(who.seat);
                next.tree.giveKey(node, who.updateKey);
                next.tree.blankAbove(node);
            }
        }
    }

    private void applyRemoves(Epoch next) {
        for (int i = 0; i < leavingLeaves.size; i++) {
            int leaf = leavingLeaves.at(i);
            next.noteRemoved(leaf);
            next.tree.blank(nodeOfLeaf(leaf));
            next.tree.blankAbove(nodeOfLeaf(leaf));
        }
    }

    private void applyAdds(Epoch next) {
        for (int i = 0; i < joiners.size; i++) {
            Person who = personNumbered(joiners.at(i));
            int leaf = next.tree.leastBlankLeaf();
            if (who != null && leaf < LEAVES) {
                next.tree.giveKey(nodeOfLeaf(leaf), who.publishedKey);
                next.tree.markUnmergedAbove(leaf);
                next.noteAdded(leaf);
                who.join(leaf, newest);
            }
        }
    }

    private void renewPath(Epoch next) {
        for (int node = next.committerNode; node >= ROOT; node = parentOf(node)) {
            next.tree.giveKey(node, makeKey());
        }
    }

    /**
     * The nodes beside the path are the same in the middle tree and in the new
     * one, so the new tree serves for their resolutions.
     */
    private void sendToGroup(Epoch next) {
        for (int below = next.committerNode; below > ROOT; below = parentOf(below)) {
            int pathKey = next.tree.keyAt(parentOf(below));
            resolved.clear();
            resolve(next.tree, siblingOf(below), resolved);
            for (int i = 0; i < resolved.size; i++) {
                int node = resolved.at(i);
                if (!next.hasAdded(node - FIRST_LEAF_NODE)) {
                    next.send(next.tree.keyAt(node), pathKey);
                }
            }
        }
    }

    private void sendWelcomes(Epoch next) {
        for (int i = 0; i < joiners.size; i++) {
            Person who = personNumbered(joiners.at(i));
            if (who != null) {
                int meeting = lowestPathNodeAbove(next.committerNode, nodeOfLeaf(who.seat));
                next.send(who.publishedKey, next.tree.keyAt(meeting));
                next.send(who.publishedKey, THE_SECRET);
            }
        }
    }

    /** Both nodes are leaves, so they rise to where they meet at one pace. */
    private static int lowestPathNodeAbove(int committerNode, int leafNode) {
        int ours = parentOf(committerNode);
        int theirs = parentOf(leafNode);
        while (ours != theirs && ours > ROOT) {
            ours = parentOf(ours);
            theirs = parentOf(theirs);
        }
        return ours;
    }

    private void clearProposals() {
        for (int i = 0; i < updaters.size; i++) {
            Person who = personNumbered(updaters.at(i));
            if (who != null) {
                who.updateKey = NO_KEY;
            }
        }
        updaters.clear();
        leavingLeaves.clear();
        joiners.clear();
    }

    private void gatherHeld(Person who) {
        held.clear();
        if (who.standing == READY) {
            held.append(who.publishedKey);
        }
        Epoch at = epochNumbered(who.reached);
        if (who.standing == MEMBER && at != null) {
            gatherTreeKeys(at.tree, who.seat);
            if (who.updateKey != NO_KEY) {
                held.append(who.updateKey);
            }
        }
    }

    private void gatherTreeKeys(Tree tree, int leaf) {
        for (int node = nodeOfLeaf(leaf); node >= ROOT; node = parentOf(node)) {
            if (!tree.isBlank(node) && !tree.isUnmerged(leaf, node)) {
                held.append(tree.keyAt(node));
            }
        }
    }

    /**
     * A commit sends only keys that it has made, under keys made before it: so
     * one way through the epochs, rising, finds all that can be worked out.
     */
    private void growListener() {
        for (int e = 1; e <= newest; e++) {
            Epoch made = epochNumbered(e);
            if (made != null) {
                listener.follow(made, e);
            }
        }
    }

    /** A child's number is twice its parent's, so this goes four levels deep. */
    private static void resolve(Tree tree, int node, Row into) {
        if (!isNode(node)) {
            return;
        }
        if (!tree.isBlank(node)) {
            into.append(node);
            for (int leaf = 0; leaf < LEAVES; leaf++) {
                if (tree.isUnmerged(leaf, node)) {
                    into.append(nodeOfLeaf(leaf));
                }
            }
            return;
        }
        resolve(tree, 2 * node, into);
        resolve(tree, 2 * node + 1, into);
    }

    private static final class Person {
        int standing;
        int reached;
        int seat;
        int publishedKey;
        int updateKey;

        void join(int leaf, int number) {
            standing = MEMBER;
            seat = leaf;
            reached = number;
        }
    }

    /** Numbers in a row of fixed room, made once and used again. */
    private static final class Row {
        private final int[] items;
        int size;

        Row(int room) {
            items = new int[room];
        }

        void clear() {
            size = 0;
        }

        void append(int item) {
            if (size < items.length) {
                items[size] = item;
                size++;
            }
        }

        int at(int i) {
            return i >= 0 && i < size ? items[i] : -1;
        }

        boolean contains(int item) {
            for (int i = 0; i < size; i++) {
                if (items[i] == item) {
                    return true;
                }
            }
            return false;
        }
    }

    private static final class Tree {
        private final int[] keys;
        private final int[] unmergedLeaves;

        Tree() {
            keys = new int[LAST_NODE + 1];
            unmergedLeaves = new int[LAST_NODE + 1];
        }

        void copyFrom(Tree other) {
            for (int node = ROOT; node <= LAST_NODE; node++) {
                keys[node] = other.keys[node];
                unmergedLeaves[node] = other.unmergedLeaves[node];
            }
        }

        int keyAt(int node) {
            return isNode(node) ? keys[node] : NO_KEY;
        }

        int unmergedAt(int node) {
            return isNode(node) ? unmergedLeaves[node] : 0;
        }

        boolean isBlank(int node) {
            return keyAt(node) == NO_KEY;
        }

        boolean isUnmerged(int leaf, int node) {
            return (unmergedAt(node) >> leaf & 1) == 1;
        }

        void giveKey(int node, int made) {
            if (isNode(node)) {
                keys[node] = made;
                unmergedLeaves[node] = 0;
            }
        }

        void blank(int node) {
            giveKey(node, NO_KEY);
        }

        void blankAbove(int below) {
            for (int node = parentOf(below); node >= ROOT; node = parentOf(node)) {
                blank(node);
            }
        }

        void markUnmergedAbove(int leaf) {
            for (int node = parentOf(nodeOfLeaf(leaf)); node >= ROOT; node = parentOf(node)) {
                if (!isBlank(node)) {
                    unmergedLeaves[node] |= 1 << leaf;
                }
            }
        }

        /** LEAVES if no leaf is blank. */
        int leastBlankLeaf() {
            int leaf = 0;
            while (leaf < LEAVES && !isBlank(nodeOfLeaf(leaf))) {
                leaf++;
            }
            return leaf;
        }

        int usedLeaves() {
            int used = 0;
            for (int leaf = 0; leaf < LEAVES; leaf++) {
                if (!isBlank(nodeOfLeaf(leaf))) {
                    used++;
                }
            }
            return used;
        }
    }

    /** An epoch's tree, and what the commit that made it changed and sent. */
    private static final class Epoch {
        final Tree tree;
        final int committerNode;
        final Row locks;
        final Row carried;
        private int removedLeaves;
        private int addedLeaves;

        Epoch(int madeBy) {
            tree = new Tree();
            committerNode = madeBy;
            locks = new Row(MESSAGES_OF_A_COMMIT);
            carried = new Row(MESSAGES_OF_A_COMMIT);
        }

        void noteRemoved(int leaf) {
            removedLeaves |= 1 << leaf;
        }

        void noteAdded(int leaf) {
            addedLeaves |= 1 << leaf;
        }

        boolean hasRemoved(int leaf) {
            return (removedLeaves >> leaf & 1) == 1;
        }

        boolean hasAdded(int leaf) {
            return leaf >= 0 && (addedLeaves >> leaf & 1) == 1;
        }

        void send(int lock, int content) {
            locks.append(lock);
            carried.append(content);
        }
    }

    private static final class Listener {
        private final boolean[] keysKnown;
        private final boolean[] secretsKnown;
        int keysHeard;
        int secretsHeard;

        Listener() {
            keysKnown = new boolean[KEY_LIMIT + 1];
            secretsKnown = new boolean[EPOCH_LIMIT + 1];
        }

        boolean hasKey(int number) {
            return number > NO_KEY && number <= KEY_LIMIT && keysKnown[number];
        }

        boolean hasSecret(int number) {
            return number >= 0 && number <= EPOCH_LIMIT && secretsKnown[number];
        }

        void hearKey(int number) {
            if (number > NO_KEY && number <= KEY_LIMIT && !keysKnown[number]) {
                keysKnown[number] = true;
                keysHeard++;
            }
        }

        void hearSecret(int number) {
            if (number >= 0 && number <= EPOCH_LIMIT && !secretsKnown[number]) {
                secretsKnown[number] = true;
                secretsHeard++;
            }
        }

        void follow(Epoch made, int number) {
            openMessages(made, number);
            climbPath(made);
            if (hasSecret(number - 1) && hasKey(made.tree.keyAt(ROOT))) {
                hearSecret(number);
            }
        }

        private void openMessages(Epoch made, int number) {
            for (int i = 0; i < made.carried.size; i++) {
                if (hasKey(made.locks.at(i))) {
                    if (made.carried.at(i) == THE_SECRET) {
                        hearSecret(number);
                    } else {
                        hearKey(made.carried.at(i));
                    }
                }
            }
        }

        /** The committer's leaf is not in the path: its key opens nothing here. */
        private void climbPath(Epoch made) {
            for (int node = parentOf(made.committerNode); node > ROOT; node = parentOf(node)) {
                if (hasKey(made.tree.keyAt(node))) {
                    hearKey(made.tree.keyAt(parentOf(node)));
                }
            }
        }
    }
}

/** Runs, as texts, that bring a new object to where a test begins. */
final class Stages {
    /** Person 0 alone, at leaf 0 and epoch 0; 1 key made. */
    static final String FOUNDED = "found(0)=1 ";

    /** No leaf, no key and no epoch is left. Persons 0 and 1 are at epoch 20, 2 .. 7 at 1; 8 is READY, 9 a STRANGER. */
    static final String ALL_FULL = groupOf(8) + "publish(8)=13 "
            + "update(0) update(1) commit(0) process(1) ".repeat(12)
            + "update(1) commit(0) process(1) ".repeat(7)
            + "count(0)=20 count(1)=120 count(6)=8 ";

    /**
     * Something of everything: epochs 0 .. 3; persons 0 and 2 at epoch 3, 1 and
     * 3 at 2, 4 at 1, its leaf given to 6; 5 OUT, 7 READY, 8 READY and
     * proposed, 9 a STRANGER; an update, a remove and an add proposed; a
     * listener that has heard something.
     */
    static final String BUSY = groupOf(6)
            + "remove(5) commit(0)=2 process(1) process(2) process(3) process(5)=OUT "
            + "publish(6) add(6) remove(4) leak(3) commit(0)=3 process(2)=3 "
            + "publish(7) publish(8) add(8)=1 update(2) remove(1)=3 ";

    /** A group of eight at epoch 4 in whose tree no node is BLANK; 24 keys made; only person 6 has come to it. */
    static final String NO_BLANK_NODE = groupOf(8)
            + "commit(2)=2 process(4)=2 commit(4)=3 process(6)=2 process(6)=3 commit(6)=4 ";

    private Stages() { }

    /** Persons 0 .. size - 1 at the leaves 0 .. size - 1, all at epoch 1; size + 4 keys made. */
    static String groupOf(int size) {
        StringBuilder all = new StringBuilder(FOUNDED);
        for (int person = 1; person < size; person++) {
            all.append("publish(").append(person).append(") add(").append(person).append(") ");
        }
        return all.append("commit(0)=1 ").toString();
    }

    /**
     * A group of eight that has made 100 .. 120 keys, persons 0, 1 and 2 at the
     * newest epoch (below 20), 3 .. 7 at epoch 1; up to three updates are
     * proposed, 2's first, then 1's, then 0's.
     */
    static String keysMade(int keys) {
        return keysMadeAfter(groupOf(8), 12, keys);
    }

    /** The same from another beginning, in which 0, 1 and 2 are at the newest epoch. */
    static String keysMadeAfter(String beginning, int madeThere, int keys) {
        int missing = keys - madeThere;
        StringBuilder all = new StringBuilder(beginning);
        all.append("update(0) update(1) update(2) commit(0) process(1) process(2) ".repeat(missing / 7));
        int rest = missing % 7;
        if (rest >= 4) {
            all.append("commit(0) process(1) process(2) ");
            rest -= 4;
        }
        for (int person = 2; person > 2 - rest; person--) {
            all.append("update(").append(person).append(") ");
        }
        return all.append("count(1)=").append(keys).append(" ").toString();
    }

    /** A group of eight at the epoch 1 .. 20, persons 1 .. 7 still at epoch 1; at most 88 keys made. */
    static String newest(int epoch) {
        return groupOf(8) + "commit(0) ".repeat(epoch - 1) + "count(0)=" + epoch + " ";
    }
}

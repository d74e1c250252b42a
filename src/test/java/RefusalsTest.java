/**
 * Each sentence of the promises 2 to 9 that says REFUSED, STALE or FULL: the
 * last call before the boundary, the first beyond it, which of two reasons
 * comes first, and that a refused call changes nothing.
 */
public final class RefusalsTest {
    private static final String GROUP_OF_2 = Stages.groupOf(2);
    private static final String GROUP_OF_3 = Stages.groupOf(3);
    private static final String GROUP_OF_8 = Stages.groupOf(8);

    /** Person 1 is OUT; 10 keys made; person 0 is at epoch 2. */
    private static final String ONE_OUT = GROUP_OF_2 + "remove(1) commit(0)=2 process(1)=OUT ";

    private static final Due due = new Due();

    public static void main(String[] args) {
        foundThereIsAGroup();
        foundByOneThatIsReady();
        publishByReadyOrMember();
        publishByOneThatIsOut();
        publishFull();
        addWithoutAGroup();
        addOneThatIsNotReady();
        addProposedAlready();
        addFull();
        addFullIsNotLifted();
        removeWithoutAGroup();
        removeABlankLeaf();
        removeProposedAlready();
        updateByNoMember();
        updateProposedAlready();
        updateStale();
        updateFull();
        commitByNoMember();
        commitByOneToBeRemoved();
        commitStale();
        commitNewestIs20();
        commitMoreThan116Keys();
        processByNoMember();
        processAtTheNewest();
        leakHasNoRefusalInRange();
        due.end("RefusalsTest");
    }

    private static void is(String sentence, String run) {
        new Script(run).play(sentence, due);
    }

    /** The calls, each with its answer due below 0, are each made alone after the run, and change nothing. */
    private static void refused(String sentence, String before, String... calls) {
        for (String call : calls) {
            Unchanged.by(sentence, due, before, call);
        }
    }

    private static String forPerson(String form, int person) {
        return form.replace("$P", "" + person);
    }

    private static void foundThereIsAGroup() {
        String sentence = "2: There is a group: REFUSED";
        is(sentence, "count(0)=-1 found(0)=1 count(0)=0 found(0)=REFUSED found(1)=REFUSED");
        refused(sentence, Stages.FOUNDED, "found(0)=REFUSED", "found(1)=REFUSED", "found(9)=REFUSED");
        refused(sentence, "found(9)=1 ", "found(0)=REFUSED", "found(9)=REFUSED");
        refused(sentence, GROUP_OF_2, "found(0)=REFUSED", "found(1)=REFUSED", "found(2)=REFUSED");
        refused(sentence, ONE_OUT, "found(1)=REFUSED");
        is(sentence + ", though its founder is OUT", GROUP_OF_2
                + "remove(0) commit(1)=2 process(0)=OUT found(0)=REFUSED found(1)=REFUSED found(2)=REFUSED count(0)=2");
        is(sentence + ", though its only MEMBER is to be removed", Stages.FOUNDED + "remove(0) found(0)=REFUSED found(1)=REFUSED");
        refused(sentence, Stages.ALL_FULL, "found(0)=REFUSED", "found(8)=REFUSED", "found(9)=REFUSED");
    }

    private static void foundByOneThatIsReady() {
        String sentence = "2: or the person is READY: REFUSED";
        refused(sentence, "publish(4)=1 ", "found(4)=REFUSED");
        is(sentence, "publish(4)=1 found(4)=REFUSED found(5)=2 key(0, 8)=2 state(4)=READY");
        StringBuilder allReady = new StringBuilder();
        for (int person = 0; person <= 9; person++) {
            allReady.append(forPerson("publish($P) ", person));
        }
        for (int person = 0; person <= 9; person++) {
            refused(sentence, allReady.toString(), forPerson("found($P)=REFUSED", person));
        }
        is("2: the last that is not READY founds", allReady.toString().replace("publish(9) ", "") + "found(9)=10 leaf(9)=0");
        refused("2: a group and READY", Stages.FOUNDED + "publish(1) ", "found(1)=REFUSED");
    }

    private static void publishByReadyOrMember() {
        String ready = "3: It is READY: REFUSED";
        refused(ready, "publish(4)=1 ", "publish(4)=REFUSED");
        refused(ready, Stages.FOUNDED + "publish(4)=2 ", "publish(4)=REFUSED");
        refused(ready, Stages.FOUNDED + "publish(4)=2 add(4) ", "publish(4)=REFUSED");
        is("3: another one may", "publish(4)=1 publish(4)=REFUSED publish(3)=2 publish(5)=3 count(1)=3");
        String member = "3: or a MEMBER: REFUSED";
        refused(member, Stages.FOUNDED, "publish(0)=REFUSED");
        refused(member, GROUP_OF_2, "publish(0)=REFUSED", "publish(1)=REFUSED");
        refused(member, GROUP_OF_2 + "commit(0) ", "publish(1)=REFUSED");
        refused(member, GROUP_OF_2 + "remove(1) ", "publish(1)=REFUSED");
        refused("3: a MEMBER until it has processed its removal", GROUP_OF_2 + "remove(1) commit(0) ", "publish(1)=REFUSED");
    }

    private static void publishByOneThatIsOut() {
        String sentence = "3: One that is OUT may come again so";
        is(sentence, ONE_OUT + "holds(1, 2)=false publish(1)=11 state(1)=READY holds(1, 11)=true holds(1, 2)=false "
                + "epoch(1)=REFUSED leaf(1)=REFUSED add(1)=1 commit(0)=3 state(1)=MEMBER epoch(1)=3 leaf(1)=1 process(1)=REFUSED");
        refused(sentence + ", once", ONE_OUT + "publish(1)=11 ", "publish(1)=REFUSED");
        is(sentence + ", and again", ONE_OUT
                + "publish(1)=11 add(1) commit(0)=3 remove(1) commit(0)=4 process(1)=OUT publish(1)=20 state(1)=READY");
    }

    private static void publishFull() {
        String sentence = "3: 120 KEYS were made: FULL";
        is(sentence, Stages.keysMade(118) + "publish(8)=119 publish(9)=120 count(1)=120");
        is(sentence, Stages.keysMade(119) + "publish(9)=120 state(9)=READY publish(8)=FULL state(8)=STRANGER count(1)=120");
        refused(sentence, Stages.keysMade(120), "publish(8)=FULL", "publish(9)=FULL");
        refused("3: READY before FULL", Stages.keysMade(119) + "publish(8)=120 ", "publish(8)=REFUSED", "publish(9)=FULL");
        refused("3: MEMBER before FULL", Stages.keysMade(120), "publish(0)=REFUSED", "publish(7)=REFUSED");
        String oneOut = Stages.groupOf(4) + "remove(3) commit(0) process(3)=OUT process(1) process(2) ";
        is("3: one that is OUT, the last KEY", Stages.keysMadeAfter(oneOut, 12, 119) + "publish(3)=120 state(3)=READY");
        refused("3: one that is OUT and FULL", Stages.keysMadeAfter(oneOut, 12, 120), "publish(3)=FULL");
    }

    private static void addWithoutAGroup() {
        String sentence = "4: No group: REFUSED";
        refused(sentence, "", "add(0)=REFUSED", "add(9)=REFUSED");
        refused(sentence, "publish(1)=1 ", "add(1)=REFUSED");
        is(sentence, "publish(1)=1 add(1)=REFUSED found(0)=2 add(1)=1");
    }

    private static void addOneThatIsNotReady() {
        String sentence = "4: it is not READY: REFUSED";
        refused(sentence, Stages.FOUNDED, "add(0)=REFUSED", "add(1)=REFUSED", "add(9)=REFUSED");
        refused(sentence, ONE_OUT, "add(0)=REFUSED", "add(1)=REFUSED");
        refused(sentence, GROUP_OF_2 + "remove(1) commit(0) ", "add(1)=REFUSED");
        is(sentence, Stages.FOUNDED + "add(1)=REFUSED publish(1) add(1)=1 commit(0) add(1)=REFUSED");
    }

    private static void addProposedAlready() {
        String sentence = "4: its adding is proposed already: REFUSED";
        refused(sentence, Stages.FOUNDED + "publish(1) add(1)=1 ", "add(1)=REFUSED");
        refused(sentence, Stages.FOUNDED + "publish(1) publish(2) add(1) add(2) update(0) ", "add(1)=REFUSED", "add(2)=REFUSED");
        is(sentence, Stages.FOUNDED + "publish(1) publish(2) add(1)=1 add(1)=REFUSED add(2)=2 add(1)=REFUSED count(2)=2");
        is("4: a remove or an update of the same number is no adding", Stages.groupOf(3)
                + "publish(4) publish(5) remove(1) update(2) add(4)=3 add(5)=4");
        is("4: after the commit nothing is proposed", ONE_OUT + "publish(1) add(1)=1 commit(0) remove(1) commit(0) process(1)=OUT "
                + "publish(1) add(1)=1");
    }

    private static void addFull() {
        String sentence = "4: BLANK leaves and removes are not more than adds: FULL";
        StringBuilder seven = new StringBuilder(Stages.FOUNDED + "publish(8) publish(9) ");
        for (int person = 1; person <= 7; person++) {
            seven.append(String.format("publish(%d) add(%d)=%d ", person, person, person));
        }
        refused(sentence, seven.toString(), "add(8)=FULL", "add(9)=FULL");
        refused("4: proposed already before FULL", seven.toString(), "add(1)=REFUSED", "add(7)=REFUSED");
        refused("4: not READY before FULL", seven.toString(), "add(0)=REFUSED");
        is("4: an update makes no room", seven + "update(0) add(8)=FULL");
        is("4: a remove makes room for one", seven + "remove(0)=8 add(8)=9 add(9)=FULL count(2)=9");
        is("4: seven adds and a founder", seven + "commit(0)=1 count(6)=8 add(8)=FULL");
        refused("4: no BLANK leaf, nothing proposed", GROUP_OF_8 + "publish(8) ", "add(8)=FULL");
        refused("4: not READY before FULL", GROUP_OF_8, "add(8)=REFUSED");
        String two = Stages.groupOf(6) + "publish(6) publish(7) publish(8) publish(9) ";
        is("4: two BLANK leaves", two + "add(6)=1 add(7)=2 add(8)=FULL remove(5)=3 add(8)=4 add(9)=FULL remove(4)=5 add(9)=6");
        is("4: the removes first", two + "remove(1)=1 remove(2)=2 add(6)=3 add(7)=4 add(8)=5 add(9)=6 commit(0)=2 "
                + "leaf(6)=1 leaf(7)=2 leaf(8)=6 leaf(9)=7 count(6)=8");
    }

    private static void addFullIsNotLifted() {
        is("4: leaves BLANK in the NEWEST tree, not in the one before", Stages.groupOf(7)
                + "publish(7) publish(8) add(7)=1 commit(0)=2 add(8)=FULL remove(7) commit(0)=3 add(8)=1");
        is("4: a removed leaf is BLANK though its MEMBER lags behind", GROUP_OF_8
                + "publish(8) remove(3) commit(0)=2 state(3)=MEMBER add(8)=1 commit(0)=3 leaf(8)=3");
    }

    private static void removeWithoutAGroup() {
        String sentence = "5: No group: REFUSED";
        refused(sentence, "", "remove(0)=REFUSED", "remove(1)=REFUSED", "remove(7)=REFUSED");
        refused(sentence, "publish(0)=1 publish(1)=2 ", "remove(0)=REFUSED", "remove(1)=REFUSED");
        is(sentence, "remove(0)=REFUSED found(0)=1 remove(0)=1");
    }

    private static void removeABlankLeaf() {
        String sentence = "5: the leaf is BLANK in the NEWEST tree: REFUSED";
        for (int leaf = 1; leaf <= 7; leaf++) {
            refused(sentence, Stages.FOUNDED, "remove(" + leaf + ")=REFUSED");
        }
        is(sentence, Stages.groupOf(7) + "remove(6)=1 remove(7)=REFUSED");
        refused("5: BLANK, though it was not in an EPOCH before", GROUP_OF_2 + "remove(1) commit(0) ", "remove(1)=REFUSED");
        refused("5: BLANK, though a MEMBER has come to it already",
                GROUP_OF_3 + "remove(1) commit(0) process(2) ", "remove(1)=REFUSED");
        refused("5: BLANK until the add is committed", Stages.FOUNDED + "publish(1) add(1) ", "remove(1)=REFUSED");
        is("5: not BLANK any more", Stages.FOUNDED + "publish(1) add(1) remove(1)=REFUSED commit(0) remove(1)=1");
        is("5: the leaf of one that lags behind", GROUP_OF_2 + "commit(0) commit(0) epoch(1)=1 remove(1)=1");
    }

    private static void removeProposedAlready() {
        String sentence = "5: its removing is proposed already: REFUSED";
        refused(sentence, GROUP_OF_3 + "remove(1)=1 ", "remove(1)=REFUSED");
        refused(sentence, GROUP_OF_3 + "remove(0)=1 remove(2)=2 update(1) ", "remove(0)=REFUSED", "remove(2)=REFUSED");
        StringBuilder all = new StringBuilder(GROUP_OF_8);
        for (int leaf = 0; leaf <= 7; leaf++) {
            all.append(String.format("remove(%d)=%d ", leaf, leaf + 1));
        }
        for (int number = 0; number <= 7; number++) {
            refused(sentence, all.toString(), "remove(" + number + ")=REFUSED", "commit(" + number + ")=REFUSED");
        }
        is("5: an update or an add of the same number is no removing", GROUP_OF_3
                + "publish(3) update(1) update(2) add(3) remove(1)=4 remove(2)=5 remove(0)=6");
        is("5: after the commit it may be proposed again", GROUP_OF_2
                + "publish(5) remove(1)=1 add(5)=2 commit(0)=2 leaf(5)=1 remove(1)=1 commit(0)=3 process(5)=OUT");
    }

    private static void updateByNoMember() {
        String sentence = "6: It is no MEMBER: REFUSED";
        refused(sentence, "", "update(0)=REFUSED", "update(9)=REFUSED");
        refused(sentence, "publish(0) ", "update(0)=REFUSED");
        refused(sentence, Stages.FOUNDED + "publish(1) add(1) ", "update(1)=REFUSED", "update(2)=REFUSED");
        refused(sentence, ONE_OUT, "update(1)=REFUSED");
        is(sentence, Stages.FOUNDED + "publish(1) add(1) update(1)=REFUSED commit(0) update(1)=7");
        is("6: one that is to be removed is a MEMBER", GROUP_OF_2 + "remove(1) update(1)=7 count(2)=2");
    }

    private static void updateProposedAlready() {
        String sentence = "6: its update is proposed already: REFUSED";
        refused(sentence, Stages.FOUNDED + "update(0)=2 ", "update(0)=REFUSED");
        refused(sentence, GROUP_OF_3 + "update(1) update(0) update(2) ", "update(0)=REFUSED", "update(1)=REFUSED", "update(2)=REFUSED");
        is(sentence, Stages.FOUNDED + "update(0)=2 update(0)=REFUSED commit(0)=1 update(0)=7 update(0)=REFUSED");
        is("6: a remove or an add of the same number is no update", GROUP_OF_3 + "remove(1) publish(4) add(4) update(1)=9 update(0)=10");
    }

    private static void updateStale() {
        String sentence = "6: It has not come to the NEWEST EPOCH: STALE";
        is(sentence, GROUP_OF_2 + "update(1)=7 commit(0)=2 update(1)=STALE process(1)=2 update(1)=12");
        refused(sentence, GROUP_OF_2 + "commit(0)=2 ", "update(1)=STALE");
        is("6: one EPOCH short", GROUP_OF_2 + "commit(0) commit(0) process(1)=2 update(1)=STALE process(1)=3 update(1)=15");
        refused("6: its leaf was removed", GROUP_OF_2 + "remove(1) commit(0) ", "update(1)=STALE");
        refused("6: its leaf was given to another", GROUP_OF_2 + "publish(2) remove(1) add(2) commit(0) ", "update(1)=STALE");
        is("6: the committer and the added one are not STALE", Stages.FOUNDED + "publish(1) add(1) commit(0) update(0)=7 update(1)=8");
    }

    private static void updateFull() {
        String sentence = "6: 120 KEYS: FULL";
        is(sentence, Stages.keysMade(119) + "update(0)=120 holds(0, 120)=true count(1)=120");
        String full = Stages.keysMadeAfter(GROUP_OF_8 + "publish(8)=13 ", 13, 120);
        refused(sentence, full, "update(0)=FULL");
        refused("6: proposed already before FULL", full, "update(1)=REFUSED", "update(2)=REFUSED");
        refused("6: STALE before FULL", full, "update(3)=STALE", "update(7)=STALE");
        refused("6: no MEMBER before FULL", full, "update(8)=REFUSED", "update(9)=REFUSED");
    }

    private static void commitByNoMember() {
        String sentence = "7: It is no MEMBER: REFUSED";
        refused(sentence, "", "commit(0)=REFUSED", "commit(9)=REFUSED");
        refused(sentence, "publish(0) ", "commit(0)=REFUSED");
        refused(sentence, Stages.FOUNDED + "publish(1) add(1) ", "commit(1)=REFUSED", "commit(2)=REFUSED");
        refused(sentence, ONE_OUT, "commit(1)=REFUSED");
        is(sentence, Stages.FOUNDED + "publish(1) add(1) commit(1)=REFUSED commit(0)=1 commit(1)=2");
    }

    private static void commitByOneToBeRemoved() {
        String sentence = "7: the removing of its leaf is proposed: REFUSED";
        refused(sentence, Stages.FOUNDED + "remove(0) ", "commit(0)=REFUSED");
        refused(sentence, GROUP_OF_3 + "remove(1) ", "commit(1)=REFUSED");
        is(sentence, GROUP_OF_3 + "remove(1) commit(1)=REFUSED commit(0)=2 commit(0)=3");
        is("7: its leaf, not its number", GROUP_OF_2 + "publish(7) add(7) commit(0)=2 leaf(7)=2 remove(2) commit(7)=REFUSED "
                + "process(1) commit(1)=3");
        is("7: a person whose number is a leaf to be removed", Stages.FOUNDED
                + "publish(2) add(2) commit(0)=1 publish(1) add(1) commit(0)=2 process(2)=2 leaf(2)=1 leaf(1)=2 "
                + "remove(2)=1 commit(1)=REFUSED commit(2)=3 process(1)=OUT");
        refused("7: to be removed before STALE", GROUP_OF_3 + "commit(0)=2 remove(1) ", "commit(1)=REFUSED", "commit(2)=STALE");
        refused("7: to be removed before FULL", Stages.newest(20) + "remove(0) ", "commit(0)=REFUSED");
        refused("7: to be removed before FULL", Stages.keysMade(117) + "remove(1) ", "commit(1)=REFUSED", "commit(0)=FULL");
        refused("7: its leaf is another's by now", GROUP_OF_2 + "publish(2) remove(1) add(2) commit(0)=2 remove(1) ",
                "commit(1)=REFUSED", "commit(2)=REFUSED");
    }

    private static void commitStale() {
        String sentence = "7: It has not come to the NEWEST EPOCH: STALE";
        refused(sentence, GROUP_OF_2 + "commit(0)=2 ", "commit(1)=STALE");
        is(sentence, GROUP_OF_2 + "commit(0)=2 commit(0)=3 commit(1)=STALE process(1)=2 commit(1)=STALE process(1)=3 commit(1)=4 "
                + "commit(0)=STALE");
        refused("7: STALE with proposals", Stages.BUSY, "commit(3)=STALE", "commit(4)=STALE", "commit(1)=REFUSED");
        refused("7: its leaf was removed", GROUP_OF_2 + "remove(1) commit(0)=2 ", "commit(1)=STALE");
        refused("7: STALE before FULL, EPOCHS", Stages.newest(20), "commit(1)=STALE", "commit(7)=STALE");
        refused("7: STALE before FULL, KEYS", Stages.keysMade(117), "commit(3)=STALE", "commit(7)=STALE");
    }

    private static void commitNewestIs20() {
        String sentence = "7: The NEWEST is 20: FULL";
        is(sentence, Stages.newest(19) + "commit(0)=20 count(0)=20 count(1)=88 commit(0)=FULL");
        refused(sentence, Stages.newest(20), "commit(0)=FULL");
        refused(sentence + ", with proposals",
                Stages.newest(20) + "process(1) ".repeat(19) + "update(0) update(1) remove(2) publish(8) add(8) ",
                "commit(0)=FULL", "commit(1)=FULL");
        refused("7: no MEMBER before FULL", Stages.newest(20) + "publish(8) ", "commit(8)=REFUSED", "commit(9)=REFUSED");
        is("7: a group of one comes to 20", Stages.FOUNDED + "commit(0) ".repeat(19) + "commit(0)=20 commit(0)=FULL count(1)=81");
    }

    private static void commitMoreThan116Keys() {
        String sentence = "7: more than 116 KEYS were made: FULL";
        for (int keys = 112; keys <= 116; keys++) {
            is(sentence, Stages.keysMade(keys) + "commit(1) count(1)=" + (keys + 4) + " count(2)=0");
        }
        for (int keys = 117; keys <= 120; keys++) {
            refused(sentence, Stages.keysMade(keys), "commit(0)=FULL", "commit(2)=FULL");
        }
        is("7: 116 KEYS and one more by publish", Stages.keysMade(116) + "publish(9)=117 commit(0)=FULL");
        is("7: 116 KEYS and one more by update", Stages.keysMade(116) + "update(0)=117 commit(0)=FULL");
        refused("7: no MEMBER before FULL", Stages.keysMade(119) + "publish(8) ", "commit(8)=REFUSED", "commit(9)=REFUSED");
    }

    private static void processByNoMember() {
        String sentence = "8: It is no MEMBER: REFUSED";
        refused(sentence, "", "process(0)=REFUSED", "process(9)=REFUSED");
        refused(sentence, "publish(0) ", "process(0)=REFUSED");
        refused(sentence, GROUP_OF_2 + "publish(2) add(2) ", "process(2)=REFUSED", "process(3)=REFUSED");
        refused(sentence, ONE_OUT + "commit(0) ", "process(1)=REFUSED");
        refused("8: READY again", ONE_OUT + "publish(1) commit(0) ", "process(1)=REFUSED");
    }

    private static void processAtTheNewest() {
        String sentence = "8: or has come to the NEWEST: REFUSED";
        refused(sentence, Stages.FOUNDED, "process(0)=REFUSED");
        refused(sentence, GROUP_OF_2, "process(0)=REFUSED", "process(1)=REFUSED");
        refused("8: to be removed, but not yet", GROUP_OF_2 + "remove(1) ", "process(1)=REFUSED");
        is(sentence, GROUP_OF_2 + "commit(0)=2 process(0)=REFUSED process(1)=2 process(1)=REFUSED commit(1)=3 process(0)=3");
        refused("8: at the last EPOCH", Stages.ALL_FULL, "process(0)=REFUSED", "process(1)=REFUSED");
        StringBuilder all = new StringBuilder(Stages.newest(20));
        for (int epoch = 2; epoch <= 20; epoch++) {
            all.append("process(7)=").append(epoch).append(" epoch(7)=").append(epoch).append(" ");
        }
        refused("8: from EPOCH 1 to 20, one by one", all.toString(), "process(7)=REFUSED");
    }

    private static void leakHasNoRefusalInRange() {
        String sentence = "9: Others HOLD nothing";
        for (int person = 0; person <= 9; person++) {
            Unchanged.by(sentence, due, "", forPerson("leak($P)=0", person));
        }
        Unchanged.by(sentence, due, Stages.FOUNDED, "leak(9)=0");
        Unchanged.by(sentence, due, ONE_OUT, "leak(1)=0");
        Unchanged.by("9: what it has already", due, GROUP_OF_3 + "leak(2)=3 ", "leak(2)=0");
    }
}

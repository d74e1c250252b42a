import java.io.IOException;
import java.nio.file.Files;
import java.nio.file.Path;
import java.util.ArrayList;
import java.util.List;

/**
 * The document read from its first line to its last promise: each sentence, in
 * its own words, with a run that would answer otherwise if it did not hold. The
 * face is FaceTest's. So that none is left out, the sentences here, one after
 * the other, must be the document's text. Runs in the project's root.
 */
public final class SentencesTest {
    private static final Path DOCUMENT = Path.of("../shared/DOC.md");

    /** Leaves 0 .. 4, then leaf 4 commits: node 6 has key 11, node 3 key 12; persons 0 and 4 are at epoch 2. */
    private static final String BOTH_SIDES = Stages.groupOf(5) + "commit(4)=2 process(0)=2 ";

    /** Leaf 0 of five is removed, then given to person 6 by leaf 4's commit: it is unmerged in the nodes 4 and 2. */
    private static final String LEAF_0_ADDED = Stages.groupOf(5)
            + "remove(0) commit(1)=2 process(4)=2 publish(6)=14 add(6) commit(4)=3 leaf(6)=0 ";

    /** Persons 1 .. 7 are READY with the keys 2 .. 8. */
    private static final String SEVEN_READY = Stages.FOUNDED
            + "publish(1)=2 publish(2)=3 publish(3)=4 publish(4)=5 publish(5)=6 publish(6)=7 publish(7)=8 ";
    private static final String ADD_SEVEN = "add(1) add(2) add(3) add(4) add(5) add(6) add(7) ";

    private static final Due due = new Due();
    private static final List<String> said = new ArrayList<>();

    public static void main(String[] args) throws IOException {
        whatItIs();
        theTree();
        persons();
        proposals();
        sentByTheCommit();
        theListener();
        refusedCallsAndConstants();
        promises1To3();
        promises4To6();
        promises7To9();
        promises10To15();
        promises16To20();
        theDocumentSaysNoMore();
        due.end("SentencesTest");
    }

    private static void say(String sentence, String... runs) {
        said.add(sentence);
        for (String run : runs) {
            new Script(run).play(sentence, due);
        }
    }

    private static void whatItIs() {
        say("A group that agrees on a new secret with every change of its members: a tree of keys, proposals and commits, "
                        + "welcomes, members that lag behind, what each of them holds, and what a listener can work out who "
                        + "learns what some member holds.",
                "found(0)=1 commit(0)=1 key(1, 1)=5 publish(1)=6 add(1)=1 commit(0)=2 key(2, 1)=10 sent(2)=2 leak(1)=4 "
                        + "secretHeard(2)=true secretHeard(1)=false remove(1)=1 commit(0)=3 key(3, 1)=14 secretHeard(3)=false "
                        + "holds(1, 10)=true process(1)=OUT holds(1, 10)=false");
        say("An object is used for at most 512 calls after it has been made; what later calls answer is free.",
                "count(0)=-1 ".repeat(511) + "found(0)=1",
                Stages.ALL_FULL + "leak(0)=4 " + "leak(0)=0 ".repeat(380) + "leak(2)=3 count(5)=20");
    }

    private static void theTree() {
        say("THE TREE has the nodes 1 .. 15: node n below 8 has the children 2 n and 2 n + 1; leaf l (0 .. 7) is node 8 + l.",
                Stages.groupOf(8) + "key(1, 0)=REFUSED key(1, 16)=REFUSED key(1, 9)=2 key(1, 15)=8 leaf(1)=1 leaf(7)=7 "
                        + "resolution(1, 5, 0)=10 resolution(1, 5, 1)=11 resolution(1, 6, 0)=12 resolution(1, 6, 1)=13 "
                        + "resolution(1, 7, 0)=14 resolution(1, 7, 1)=15 resolution(1, 3, 0)=12 resolution(1, 3, 3)=15");
        say("A node lies ABOVE another if it is its parent or ABOVE its parent.",
                Stages.groupOf(8) + "commit(5)=2 key(2, 13)=13 key(2, 6)=14 key(2, 3)=15 key(2, 1)=16 "
                        + "key(2, 12)=5 key(2, 7)=0 key(2, 2)=11 key(2, 4)=10");
        say("A node is BLANK or holds a KEY, and has a set of UNMERGED leaves (empty for leaves and BLANK nodes).",
                BOTH_SIDES + "publish(5)=14 publish(6)=15 add(5) add(6) commit(0)=3 key(3, 6)=11 unmerged(3, 6)=32 "
                        + "key(3, 3)=12 unmerged(3, 3)=96 key(3, 7)=0 unmerged(3, 7)=0 key(3, 5)=0 unmerged(3, 5)=0 "
                        + "key(3, 13)=14 unmerged(3, 13)=0 key(3, 14)=15 unmerged(3, 14)=0 key(3, 15)=0 unmerged(3, 15)=0");
        say("KEYS are numbered 1, 2, .. as they are made, at most 120.",
                "found(3)=1 publish(9)=2 update(3)=3 commit(3)=1 key(1, 8)=4 key(1, 1)=7 publish(0)=8 count(1)=8",
                Stages.keysMade(119) + "publish(9)=120 publish(8)=FULL update(0)=FULL commit(0)=FULL count(1)=120");
        say("The RESOLUTION of a node: if it is not BLANK, itself, then its UNMERGED leaves' nodes, rising;",
                Stages.groupOf(2) + "resolution(1, 1, -1)=1 resolution(1, 1, 0)=1 resolution(1, 8, -1)=1 resolution(1, 8, 0)=8",
                BOTH_SIDES + "publish(5) publish(6) add(6) add(5) commit(0)=3 leaf(6)=5 leaf(5)=6 "
                        + "resolution(3, 3, -1)=3 resolution(3, 3, 0)=3 resolution(3, 3, 1)=13 resolution(3, 3, 2)=14",
                LEAF_0_ADDED + "resolution(3, 2, -1)=2 resolution(3, 2, 0)=2 resolution(3, 2, 1)=8");
        say("of a BLANK leaf nothing;", Stages.FOUNDED + "resolution(0, 8, -1)=1 resolution(0, 9, -1)=0 resolution(0, 15, -1)=0");
        say("of another BLANK node the RESOLUTION of its first child, then that of the second one.",
                Stages.FOUNDED + "resolution(0, 1, -1)=1 resolution(0, 1, 0)=8 resolution(0, 3, -1)=0",
                Stages.groupOf(8) + "commit(7)=2 process(0)=2 remove(4) commit(0)=3 key(3, 7)=14 "
                        + "resolution(3, 3, -1)=2 resolution(3, 3, 0)=13 resolution(3, 3, 1)=7");
    }

    private static void persons() {
        say("PERSONS 0 .. 9 are each a STRANGER (at first), READY, a MEMBER or OUT.",
                "state(9)=STRANGER publish(9)=1 state(9)=READY found(0)=2 add(9) commit(0) state(9)=MEMBER "
                        + "remove(1) commit(0) process(9)=OUT state(9)=OUT state(10)=REFUSED state(-1)=REFUSED");
        say("A MEMBER has a leaf and has come to an EPOCH.",
                Stages.groupOf(3) + "commit(0)=2 leaf(0)=0 epoch(0)=2 leaf(2)=2 epoch(2)=1 leaf(3)=REFUSED epoch(3)=REFUSED");
        say("The group has EPOCHS 0, 1, .., the NEWEST being at most 20, each with its tree; there are none before found.",
                "count(0)=-1 key(0, 8)=REFUSED found(0)=1 count(0)=0 key(0, 8)=1 key(1, 8)=REFUSED commit(0)=1 key(1, 8)=2 key(0, 8)=1",
                Stages.newest(20) + "commit(0)=FULL key(0, 1)=0 key(1, 1)=12 key(19, 1)=84 key(20, 1)=88 key(21, 1)=REFUSED");
        say("A MEMBER HOLDS the KEY of each node that is its leaf or ABOVE it in the tree of the EPOCH it has come to, "
                        + "if the node is not BLANK and its leaf is not UNMERGED there;",
                Stages.groupOf(2) + "commit(0)=2 holds(1, 2)=true holds(1, 3)=false holds(1, 4)=true holds(1, 5)=true holds(1, 6)=true "
                        + "holds(1, 8)=false process(1) holds(1, 2)=true holds(1, 7)=false holds(1, 8)=true holds(1, 4)=false",
                Stages.groupOf(3) + "key(1, 5)=0 leak(2)=3 holds(2, 3)=true holds(2, 6)=true holds(2, 7)=true holds(2, 0)=false",
                BOTH_SIDES + "publish(5)=14 add(5) commit(0)=3 holds(5, 14)=true holds(5, 11)=false holds(5, 12)=false holds(5, 18)=true");
        say("besides, the KEY of its update if that is among the proposals;",
                Stages.groupOf(2) + "update(1)=7 holds(1, 7)=true holds(0, 7)=false commit(0)=2 holds(1, 7)=false process(1) holds(1, 7)=true",
                Stages.groupOf(2) + "update(1)=7 leak(1)=5 keyHeard(7)=true");
        say("and the SECRET of the EPOCH it has come to, no other one.",
                Stages.groupOf(2) + "update(1)=7 commit(0)=2 leak(1)=4 secretHeard(0)=false secretHeard(1)=true secretHeard(2)=false",
                Stages.groupOf(2) + "commit(0)=2 leak(0)=4 secretHeard(0)=false secretHeard(1)=false secretHeard(2)=true");
        say("A person that is READY HOLDS the KEY that it made by publish.",
                "publish(4)=1 publish(5)=2 holds(4, 1)=true holds(4, 2)=false holds(5, 2)=true leak(5)=1 keyHeard(2)=true count(5)=0",
                Stages.groupOf(2) + "remove(1) commit(0) process(1)=OUT publish(1)=11 holds(1, 11)=true holds(1, 2)=false leak(1)=1");
        say("Others HOLD nothing.",
                Stages.groupOf(2) + "remove(1) commit(0) process(1)=OUT holds(1, 2)=false holds(1, 6)=false leak(1)=0 leak(9)=0 count(5)=0");
    }

    private static void proposals() {
        say("PROPOSALS stand in a list, empty at first.",
                "count(2)=0 found(0) count(2)=0 publish(1) add(1)=1 update(0) count(2)=2 remove(0)=3 count(2)=3");
        say("A commit makes the next EPOCH; its tree comes from the last one thus: first the updates, in their order: the leaf "
                        + "gets the update's KEY, and all nodes ABOVE it get BLANK (an update of the one who commits is left out);",
                Stages.groupOf(8) + "commit(7)=2 process(0)=2 process(6)=2 process(1)=2 update(6)=17 update(0)=18 update(1)=19 commit(0)=3 "
                        + "key(3, 14)=17 key(3, 9)=19 key(3, 8)=20 key(3, 7)=0 key(3, 3)=0 key(3, 15)=13 key(3, 10)=3 key(3, 1)=23 "
                        + "key(2, 7)=14 key(2, 3)=15");
        say("then the removes: the leaf and all nodes ABOVE it get BLANK;",
                Stages.groupOf(8) + "commit(7)=2 process(0)=2 remove(6) commit(0)=3 key(3, 14)=0 key(3, 7)=0 key(3, 3)=0 key(3, 15)=13 "
                        + "key(3, 12)=5 key(2, 7)=14",
                Stages.groupOf(3) + "remove(1)=1 update(1)=8 commit(0)=2 key(2, 9)=0 count(6)=2");
        say("then the adds: the least BLANK leaf gets the person's KEY, and is UNMERGED in all nodes ABOVE it that are not BLANK.",
                Stages.groupOf(4) + "publish(6)=9 publish(5)=10 add(5) add(6) remove(1) remove(0) commit(2)=2 leaf(5)=0 leaf(6)=1 "
                        + "key(2, 8)=10 key(2, 9)=9 unmerged(2, 4)=0 unmerged(2, 2)=0",
                BOTH_SIDES + "publish(5) publish(6) add(5) add(6) commit(0)=3 unmerged(3, 3)=96 unmerged(3, 6)=32 unmerged(3, 7)=0",
                BOTH_SIDES + "publish(5) add(5) commit(0)=3 publish(6) add(6) commit(0)=4 unmerged(4, 3)=96 unmerged(4, 6)=32");
        say("(A node that gets BLANK has no UNMERGED leaves.)",
                BOTH_SIDES + "publish(5) add(5) commit(0)=3 unmerged(3, 3)=32 remove(4) commit(0)=4 unmerged(4, 3)=0 unmerged(4, 6)=0",
                BOTH_SIDES + "publish(5) add(5) commit(0)=3 process(4)=3 update(4) commit(0)=4 unmerged(4, 3)=0 unmerged(4, 6)=0");
        say("This is the MIDDLE tree.",
                Stages.groupOf(8) + "commit(7)=2 process(0)=2 commit(0)=3 sent(3)=4",
                Stages.groupOf(8) + "commit(7)=2 process(0)=2 process(6)=2 update(6) commit(0)=3 sent(3)=7",
                Stages.groupOf(8) + "commit(7)=2 process(0)=2 remove(6) commit(0)=3 sent(3)=6");
        say("Then the leaf of the one who commits and, from there to the root, the nodes ABOVE it (the PATH) get new KEYS, "
                        + "numbered in this order, and have no UNMERGED leaves.",
                Stages.groupOf(8) + "commit(6)=2 key(2, 14)=13 key(2, 7)=14 key(2, 3)=15 key(2, 1)=16 count(1)=16",
                BOTH_SIDES + "publish(5) add(5) commit(0)=3 process(4)=3 commit(4)=4 unmerged(4, 6)=0 unmerged(4, 3)=0 unmerged(4, 1)=0");
    }

    private static void sentByTheCommit() {
        say("SENT by the commit: for each node p of the PATH, from below, let c be its child that is neither the committer's leaf "
                        + "nor in the PATH: for each node of c's RESOLUTION in the MIDDLE tree that is not the leaf of a person added "
                        + "by this commit, one message: the KEY of p under the KEY of that node.",
                SEVEN_READY + "leak(1)=1 " + ADD_SEVEN + "commit(0)=1 commit(0)=2 sent(2)=7 "
                        + "keyHeard(13)=false keyHeard(14)=true keyHeard(15)=true keyHeard(16)=true",
                SEVEN_READY + "leak(3)=1 " + ADD_SEVEN + "commit(0)=1 commit(0)=2 "
                        + "keyHeard(13)=false keyHeard(14)=false keyHeard(15)=true keyHeard(16)=true",
                SEVEN_READY + "leak(4)=1 " + ADD_SEVEN + "commit(0)=1 commit(0)=2 "
                        + "keyHeard(13)=false keyHeard(14)=false keyHeard(15)=false keyHeard(16)=true",
                BOTH_SIDES + "publish(5) add(5) commit(0)=3 sent(3)=6 commit(0)=4 sent(4)=5",
                LEAF_0_ADDED + "sent(3)=3 commit(4)=4 sent(4)=2",
                BOTH_SIDES + "publish(5)=14 leak(5)=1 add(5) commit(0)=3 keyHeard(18)=true commit(0)=4 keyHeard(22)=true count(4)=3");
        say("For each person added by this commit, in order of proposals, two more: under its KEY the KEY of the lowest node of the "
                        + "PATH that lies ABOVE its leaf, and the SECRET of the new EPOCH.",
                SEVEN_READY + "leak(1)=1 " + ADD_SEVEN + "commit(0)=1 sent(1)=14 keyHeard(9)=false keyHeard(10)=true secretHeard(1)=true",
                SEVEN_READY + "leak(3)=1 " + ADD_SEVEN + "commit(0)=1 keyHeard(10)=false keyHeard(11)=true secretHeard(1)=true",
                SEVEN_READY + "leak(7)=1 " + ADD_SEVEN + "commit(0)=1 keyHeard(11)=false keyHeard(12)=true secretHeard(1)=true",
                SEVEN_READY + "leak(7)=1 add(7) commit(0)=1 sent(1)=2 secretHeard(1)=true secretHeard(0)=false");
    }

    private static void theListener() {
        say("THE LISTENER has a set of KEYS and SECRETS, empty at first.",
                Stages.groupOf(3) + "count(4)=0 count(5)=0 keyHeard(1)=false keyHeard(7)=false secretHeard(0)=false secretHeard(1)=false "
                        + "leak(1)=4 count(4)=4 count(5)=1 leak(1)=0 count(4)=4 count(5)=1");
        say("It grows by leak, and by itself as long as it can: a KEY or SECRET SENT under a KEY that it has;",
                Stages.FOUNDED + "publish(1)=2 leak(1)=1 add(1) commit(0)=1 keyHeard(4)=true secretHeard(1)=true keyHeard(3)=false",
                Stages.groupOf(2) + "leak(1)=4 " + "commit(0) ".repeat(19) + "count(5)=20 count(4)=61 keyHeard(82)=true");
        say("the KEY of the next node of the PATH of a commit, if it has the KEY which that commit gave to a node of the PATH;",
                Stages.groupOf(4) + "commit(0)=2 leak(2)=3 keyHeard(11)=true keyHeard(12)=true keyHeard(10)=false keyHeard(9)=false",
                Stages.groupOf(3) + "update(1)=8 commit(2)=2 process(0)=2 leak(0)=3 keyHeard(4)=true keyHeard(5)=false keyHeard(7)=false");
        say("the SECRET of EPOCH e, if it has that of EPOCH e - 1 and the KEY that the commit of EPOCH e gave to the root.",
                Stages.groupOf(2) + "leak(1)=4 commit(0)=2 keyHeard(10)=true secretHeard(2)=true",
                Stages.groupOf(2) + "leak(0)=4 commit(0)=2 secretHeard(1)=true keyHeard(10)=false secretHeard(2)=false",
                Stages.groupOf(2) + "update(1)=7 commit(0)=2 commit(0)=3 process(1) process(1) leak(1)=4 keyHeard(11)=true "
                        + "secretHeard(2)=false secretHeard(3)=true");
        say("Everything that was or will be SENT counts at all times.",
                Stages.groupOf(2) + "commit(0)=2 commit(0)=3 leak(1)=4 keyHeard(10)=true keyHeard(14)=true secretHeard(3)=true",
                Stages.groupOf(2) + "leak(1)=4 commit(0)=2 commit(0)=3 keyHeard(10)=true keyHeard(14)=true secretHeard(3)=true",
                Stages.groupOf(3) + "update(1)=8 remove(2) commit(0)=2 commit(0)=3 process(1) process(1) leak(1)=4 secretHeard(2)=false "
                        + "leak(2)=3 secretHeard(1)=true secretHeard(2)=true");
    }

    private static void refusedCallsAndConstants() {
        say("In every call numbers are tested first; one out of its range is REFUSED, and a refused call (below 0) changes nothing.",
                Stages.ALL_FULL + "publish(10)=REFUSED add(-1)=REFUSED update(10)=REFUSED commit(-1)=REFUSED commit(0)=FULL commit(2)=STALE "
                        + "remove(8)=REFUSED process(10)=REFUSED leak(-1)=REFUSED count(0)=20 count(1)=120 count(2)=0 count(3)=8 count(4)=0",
                Stages.groupOf(2) + "publish(0)=REFUSED add(0)=REFUSED remove(7)=REFUSED update(7)=REFUSED commit(7)=REFUSED process(0)=REFUSED "
                        + "found(7)=REFUSED count(1)=6 count(2)=0 count(3)=2 publish(7)=7 remove(1)=1 commit(0)=2");
        say("The constants: `STRANGER = 0`, `READY = 1`, `MEMBER = 2`, `OUT = 3`: States of persons.",
                Stages.groupOf(2) + "remove(1) commit(0) process(1)=3 publish(8) state(9)=0 state(8)=1 state(0)=2 state(1)=3");
        due.is("STRANGER", KeyTreeGroup.STRANGER, 0);
        due.is("READY", KeyTreeGroup.READY, 1);
        due.is("MEMBER", KeyTreeGroup.MEMBER, 2);
        due.is("OUT", KeyTreeGroup.OUT, 3);
    }

    private static void promises1To3() {
        say("No group; all persons STRANGERs.",
                "count(0)=-1 count(3)=0 count(6)=0 state(0)=STRANGER state(1)=STRANGER state(2)=STRANGER state(3)=STRANGER state(4)=STRANGER "
                        + "state(5)=STRANGER state(6)=STRANGER state(7)=STRANGER state(8)=STRANGER state(9)=STRANGER");
        say("Begins the group with EPOCH 0: person 0 .. 9 is a MEMBER at leaf 0, which holds a new KEY; all other nodes are BLANK.",
                "publish(1)=1 found(9)=2 count(0)=0 state(9)=MEMBER leaf(9)=0 epoch(9)=0 key(0, 8)=2 count(6)=1 resolution(0, 1, -1)=1 "
                        + "key(0, 1)=0 key(0, 2)=0 key(0, 3)=0 key(0, 4)=0 key(0, 5)=0 key(0, 6)=0 key(0, 7)=0 key(0, 9)=0 key(0, 15)=0",
                "found(10)=REFUSED found(-1)=REFUSED found(0)=1");
        say("Answers the KEY.", "publish(1)=1 publish(2)=2 found(0)=3 holds(0, 3)=true");
        say("There is a group, or the person is READY: REFUSED.",
                "publish(4)=1 found(4)=REFUSED found(5)=2 found(5)=REFUSED found(6)=REFUSED found(4)=REFUSED");
        say("The person 0 .. 9 makes a new KEY and is READY: the KEY.",
                "publish(0)=1 publish(9)=2 state(0)=READY state(9)=READY publish(10)=REFUSED publish(-1)=REFUSED count(1)=2");
        say("It is READY or a MEMBER: REFUSED.",
                "publish(1)=1 publish(1)=REFUSED found(0)=2 publish(0)=REFUSED add(1) commit(0) publish(1)=REFUSED count(1)=6");
        say("120 KEYS were made: FULL.", Stages.keysMade(119) + "publish(9)=120 publish(8)=FULL state(8)=STRANGER");
        say("(One that is OUT may come again so.)",
                Stages.groupOf(2) + "remove(1) commit(0) publish(1)=REFUSED process(1)=OUT publish(1)=11 state(1)=READY add(1)=1 commit(0)=3 "
                        + "state(1)=MEMBER epoch(1)=3");
    }

    private static void promises4To6() {
        say("Proposes to add a person 0 .. 9: how many proposals there are.",
                Stages.FOUNDED + "publish(1) publish(9) update(0) add(9)=2 add(1)=3 add(10)=REFUSED add(-1)=REFUSED count(2)=3 commit(0)=1 "
                        + "leaf(9)=1 leaf(1)=2");
        say("No group, it is not READY, or its adding is proposed already: REFUSED.",
                "publish(1) add(1)=REFUSED found(0) add(2)=REFUSED add(0)=REFUSED add(1)=1 add(1)=REFUSED count(2)=1");
        say("The BLANK leaves of the NEWEST tree and the removes proposed are together not more than the adds proposed: FULL.",
                Stages.groupOf(7) + "publish(7) publish(8) publish(9) add(7)=1 add(8)=FULL remove(2)=2 add(8)=3 add(9)=FULL count(2)=3");
        say("Proposes to remove the leaf 0 .. 7: how many proposals there are.",
                Stages.groupOf(8) + "remove(7)=1 remove(0)=2 remove(8)=REFUSED remove(-1)=REFUSED commit(3)=2 key(2, 15)=0 key(2, 8)=0 count(6)=6");
        say("No group, the leaf is BLANK in the NEWEST tree, or its removing is proposed already: REFUSED.",
                "remove(0)=REFUSED found(0) remove(1)=REFUSED remove(0)=1 remove(0)=REFUSED",
                Stages.groupOf(2) + "remove(1)=1 commit(0) leaf(1)=1 remove(1)=REFUSED");
        say("Person 0 .. 9 proposes a new KEY for its leaf: the KEY.",
                "found(9)=1 update(9)=2 count(2)=1 update(10)=REFUSED update(-1)=REFUSED",
                Stages.groupOf(2) + "update(1)=7 key(1, 9)=2 commit(0)=2 key(2, 9)=7");
        say("It is no MEMBER, or its update is proposed already: REFUSED.",
                Stages.FOUNDED + "publish(1) update(1)=REFUSED update(2)=REFUSED update(0)=3 update(0)=REFUSED count(2)=1 count(1)=3");
        say("It has not come to the NEWEST EPOCH: STALE.",
                Stages.groupOf(2) + "commit(0)=2 update(1)=STALE process(1)=2 update(1)=11");
        say("120 KEYS: FULL.", Stages.keysMade(119) + "update(0)=120 update(0)=REFUSED",
                Stages.keysMade(118) + "publish(8)=119 publish(9)=120 update(0)=FULL update(2)=REFUSED update(3)=STALE update(8)=REFUSED");
    }

    private static void promises7To9() {
        say("Person 0 .. 9 commits all proposals (there may be none): the new EPOCH, to which it has come at once.",
                "found(9)=1 commit(9)=1 epoch(9)=1 process(9)=REFUSED commit(10)=REFUSED commit(-1)=REFUSED count(0)=1",
                Stages.groupOf(3) + "update(1)=8 remove(2) publish(5)=9 add(5) commit(0)=2 key(2, 9)=8 key(2, 10)=9 epoch(0)=2");
        say("It is no MEMBER, or the removing of its leaf is proposed: REFUSED.",
                "commit(0)=REFUSED found(0) publish(1) commit(1)=REFUSED commit(2)=REFUSED remove(0) commit(0)=REFUSED count(0)=0",
                Stages.groupOf(2) + "publish(2) remove(1) add(2) commit(0)=2 commit(1)=STALE remove(1) commit(1)=REFUSED commit(2)=REFUSED");
        say("It has not come to the NEWEST EPOCH: STALE.",
                Stages.groupOf(2) + "commit(0)=2 commit(1)=STALE process(1)=2 commit(1)=3 commit(0)=STALE");
        say("The NEWEST is 20, or more than 116 KEYS were made: FULL.",
                Stages.newest(19) + "commit(0)=20 commit(0)=FULL commit(1)=STALE count(1)=88",
                Stages.keysMade(116) + "commit(0) count(1)=120", Stages.keysMade(117) + "commit(0)=FULL count(1)=117");
        say("There are no proposals any more.",
                Stages.groupOf(3) + "publish(3) add(3) update(0) update(1) remove(2) count(2)=4 commit(0)=2 count(2)=0 update(0)=15 remove(2)=2");
        say("A person that is added is a MEMBER from now on (it HOLDS what a MEMBER of the new EPOCH holds).",
                Stages.FOUNDED + "publish(1)=2 add(1) state(1)=READY commit(0)=1 state(1)=MEMBER epoch(1)=1 holds(1, 2)=true holds(1, 3)=false "
                        + "holds(1, 4)=true holds(1, 5)=true holds(1, 6)=true leak(1)=4 secretHeard(1)=true");
        say("Others stay where they are.",
                Stages.groupOf(3) + "publish(4) publish(5) add(4) remove(2) commit(1)=2 epoch(0)=1 epoch(2)=1 leaf(2)=2 state(2)=MEMBER "
                        + "state(5)=READY state(6)=STRANGER count(3)=4");
        say("Person 0 .. 9 goes on to the next EPOCH after the one it has come to: that EPOCH; but if its leaf was removed in it, "
                        + "it is OUT: OUT.",
                Stages.groupOf(2) + "commit(0) remove(1) commit(0) commit(0)=4 process(1)=2 epoch(1)=2 process(1)=OUT state(1)=OUT",
                Stages.groupOf(2) + "publish(9) remove(1) add(9) commit(0)=2 leaf(9)=1 commit(0)=3 process(9)=3 process(1)=OUT",
                Stages.groupOf(4) + "remove(1) remove(2) commit(0)=2 process(1)=OUT process(2)=OUT process(3)=2 state(3)=MEMBER",
                Stages.groupOf(2) + "commit(0) process(10)=REFUSED process(-1)=REFUSED");
        say("It is no MEMBER, or has come to the NEWEST: REFUSED.",
                "process(0)=REFUSED found(0) process(0)=REFUSED publish(1) process(1)=REFUSED commit(0) process(0)=REFUSED",
                Stages.groupOf(2) + "remove(1) process(1)=REFUSED commit(0) process(1)=OUT process(1)=REFUSED");
        say("THE LISTENER learns all that person 0 .. 9 HOLDS now: how many KEYS of these it did not have before (before it grows by itself).",
                Stages.groupOf(2) + "commit(0)=2 commit(0)=3 leak(1)=4 count(4)=10 count(5)=3 leak(1)=0 leak(0)=1",
                Stages.groupOf(2) + "leak(0)=4 leak(1)=1 update(1)=7 leak(1)=1 leak(9)=0 leak(10)=REFUSED leak(-1)=REFUSED");
    }

    private static void promises10To15() {
        say("The state of person 0 .. 9.",
                "publish(9) state(9)=READY state(0)=STRANGER found(0) state(0)=MEMBER state(10)=REFUSED state(-1)=REFUSED");
        say("The EPOCH to which the MEMBER has come; REFUSED for another person.",
                Stages.groupOf(3) + "publish(5) remove(2) commit(0) commit(0) process(1) process(2)=OUT epoch(0)=3 epoch(1)=2 epoch(2)=REFUSED "
                        + "epoch(5)=REFUSED epoch(9)=REFUSED epoch(10)=REFUSED");
        say("The MEMBER's leaf; REFUSED for another person.",
                Stages.groupOf(3) + "publish(5) publish(6) remove(2) add(6) commit(0) leaf(6)=2 leaf(2)=2 process(2)=OUT leaf(0)=0 leaf(1)=1 "
                        + "leaf(2)=REFUSED leaf(5)=REFUSED leaf(9)=REFUSED leaf(-1)=REFUSED");
        say("The KEY of node 1 .. 15 in the tree of an EPOCH, 0 if it is BLANK; REFUSED if there is no such EPOCH.",
                Stages.groupOf(2) + "key(0, 8)=1 key(0, 1)=0 key(1, 8)=3 key(1, 1)=6 key(1, 15)=0 key(2, 1)=REFUSED key(-1, 1)=REFUSED "
                        + "key(1, 0)=REFUSED key(1, 16)=REFUSED");
        say("The UNMERGED leaves of node 1 .. 15 in the tree of an EPOCH, leaf l as 2^l; REFUSED if there is no such EPOCH.",
                BOTH_SIDES + "publish(5) publish(6) publish(7) add(5) add(6) add(7) commit(0)=3 unmerged(3, 3)=224 unmerged(3, 6)=32 "
                        + "unmerged(2, 3)=0 unmerged(3, 1)=0 unmerged(3, 15)=0 unmerged(4, 3)=REFUSED unmerged(-1, 3)=REFUSED "
                        + "unmerged(3, 0)=REFUSED unmerged(3, 16)=REFUSED");
        say("The i-th node, from 0, of the RESOLUTION of node 1 .. 15 in the tree of an EPOCH; for i = -1 how many there are.",
                Stages.groupOf(8) + "resolution(1, 3, -1)=4 resolution(1, 3, 0)=12 resolution(1, 3, 1)=13 resolution(1, 3, 2)=14 "
                        + "resolution(1, 3, 3)=15 resolution(0, 3, -1)=0 resolution(0, 1, 0)=8 resolution(1, 1, 0)=1 resolution(1, 15, 0)=15");
        say("REFUSED if there is no such EPOCH or node in it.",
                Stages.groupOf(8) + "resolution(1, 3, 4)=REFUSED resolution(1, 3, -2)=REFUSED resolution(1, 0, -1)=REFUSED "
                        + "resolution(1, 16, -1)=REFUSED resolution(2, 3, -1)=REFUSED resolution(-1, 3, -1)=REFUSED resolution(0, 3, 0)=REFUSED");
    }

    private static void promises16To20() {
        say("How many messages the commit of EPOCH 1 .. NEWEST SENT; else REFUSED.",
                Stages.groupOf(4) + "commit(2)=2 sent(1)=6 sent(2)=2 sent(0)=REFUSED sent(3)=REFUSED sent(-1)=REFUSED");
        say("Whether the person HOLDS the KEY now; false for numbers out of range.",
                Stages.groupOf(2) + "holds(0, 3)=true holds(0, 2)=false holds(1, 2)=true holds(1, 7)=false holds(0, 0)=false holds(0, -1)=false "
                        + "holds(0, 121)=false holds(10, 3)=false holds(-1, 3)=false commit(0) holds(0, 3)=false");
        say("Whether THE LISTENER has the KEY; false for numbers that no KEY has.",
                Stages.groupOf(2) + "keyHeard(3)=false leak(0)=4 keyHeard(3)=true keyHeard(2)=false keyHeard(0)=false keyHeard(-1)=false "
                        + "keyHeard(7)=false keyHeard(120)=false keyHeard(121)=false",
                Stages.keysMade(119) + "publish(9)=120 keyHeard(120)=false leak(9)=1 keyHeard(120)=true keyHeard(119)=false");
        say("Whether THE LISTENER has the SECRET of the EPOCH; false if there is no such EPOCH.",
                Stages.groupOf(2) + "secretHeard(1)=false leak(0)=4 secretHeard(1)=true secretHeard(0)=false secretHeard(2)=false "
                        + "secretHeard(-1)=false secretHeard(20)=false secretHeard(21)=false",
                "secretHeard(0)=false found(0) secretHeard(0)=false leak(0)=1 secretHeard(0)=true secretHeard(1)=false",
                Stages.newest(20) + "secretHeard(20)=false leak(0)=4 secretHeard(20)=true secretHeard(19)=false");
        say("0: the NEWEST EPOCH, -1 if there is no group; 1: KEYS made; 2: proposals; 3: MEMBERS; 4: KEYS that THE LISTENER has; "
                        + "5: SECRETS that it has; 6: leaves not BLANK in the NEWEST tree (0 without a group).",
                "publish(0) leak(0) count(0)=-1 count(1)=1 count(2)=0 count(3)=0 count(4)=1 count(5)=0 count(6)=0",
                Stages.groupOf(5) + "publish(5) add(5) remove(1) remove(2) update(3) count(0)=1 count(1)=11 count(2)=4 count(3)=5 count(4)=0 "
                        + "count(5)=0 count(6)=5 commit(0)=2 leak(3)=3 count(0)=2 count(1)=15 count(2)=0 count(3)=6 count(4)=3 count(5)=1 count(6)=4");
        say("Else -2.", "count(7)=-2 count(-1)=-2 count(-2)=-2 count(MIN)=-2 count(MAX)=-2 found(0) count(7)=-2 count(-1)=-2");
    }

    private static void theDocumentSaysNoMore() throws IOException {
        if (!Files.isRegularFile(DOCUMENT)) {
            System.out.println("SentencesTest: " + DOCUMENT + " is not there, the sentences were not compared with it");
            return;
        }
        String rest = sentencesOf(Files.readString(DOCUMENT));
        for (String sentence : said) {
            String before = rest;
            due.so(rest.startsWith(sentence), () -> "not what the document says next: " + sentence + ", but: " + beginningOf(before));
            if (!rest.startsWith(sentence)) {
                return;
            }
            rest = rest.substring(sentence.length()).strip();
        }
        String left = rest;
        due.so(left.isEmpty(), () -> "a sentence without a test: " + beginningOf(left));
    }

    private static String beginningOf(String text) {
        return text.substring(0, Math.min(160, text.length()));
    }

    /** Without the headings, the face and, of each promise, the line's beginning that repeats the face. */
    private static String sentencesOf(String document) {
        return document.replaceAll("(?s)\n## Not promised\n.*", "\n")
                .replaceAll("(?ms)^```java\n.*?^```$", "")
                .replaceAll("(?m)^#.*$", "")
                .replaceAll("(?m)^`[^`\n]*\\)`: ", "")
                .replaceAll("\\s+", " ")
                .strip();
    }
}

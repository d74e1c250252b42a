import java.util.ArrayList;
import java.util.List;

/**
 * Whether a call changed anything: two new objects make the same run, one of
 * them that call more, and then both must answer alike, to every question and
 * after every next call. As an object serves for 512 calls, each group of
 * questions is put to a pair of its own.
 */
final class Unchanged {
    private static final int CALLS_OF_AN_OBJECT = 512;
    private static final String[] CHANGES = {"found", "publish", "add", "update", "commit", "process", "leak"};

    private final String sentence;
    private final Due due;
    private final Script without;
    private final Script with;
    private final int newest;
    private final int keys;

    private Unchanged(String sentence, Due due, String before, String call) {
        this.sentence = sentence;
        this.due = due;
        without = new Script(before);
        with = new Script(before + " " + call);
        KeyTreeGroup x = with.play(sentence, due);
        newest = x.count(0);
        keys = x.count(1);
    }

    /** Plays `before` and then `call` with the answer due, which must leave all as it was. */
    static void by(String sentence, Due due, String before, String call) {
        Unchanged one = new Unchanged(sentence, due, before, call);
        one.compareAllQuestions();
        one.compareEveryNextCall();
    }

    private void compareAllQuestions() {
        List<Call> questions = allQuestions();
        int room = CALLS_OF_AN_OBJECT - with.size();
        for (int from = 0; from < questions.size(); from += room) {
            compare(questions.subList(from, Math.min(questions.size(), from + room)));
        }
    }

    private void compareEveryNextCall() {
        for (String name : CHANGES) {
            for (int person = 0; person < 10; person++) {
                compare(shortLookAfter(new Call(name, person)));
            }
        }
        for (int leaf = 0; leaf < 8; leaf++) {
            compare(shortLookAfter(new Call("remove", leaf)));
        }
    }

    private void compare(List<Call> questions) {
        due.so(with.size() + questions.size() <= CALLS_OF_AN_OBJECT, () -> sentence + ": too many calls after " + with);
        KeyTreeGroup x = without.replay();
        KeyTreeGroup y = with.replay();
        for (Call question : questions) {
            long want = question.on(x);
            long got = question.on(y);
            due.so(got == want, () -> sentence + ": " + with + " changed something: then " + question
                    + " answers " + got + ", without the last call " + want);
            if (got != want) {
                return;
            }
        }
    }

    private List<Call> allQuestions() {
        List<Call> all = new ArrayList<>(counts());
        all.addAll(persons());
        for (int epoch = 0; epoch <= newest + 1; epoch++) {
            all.addAll(treeOf(epoch));
            for (int node = 1; node <= 15; node++) {
                for (int i = -1; i < 5; i++) {
                    all.add(new Call("resolution", epoch, node, i));
                }
            }
            all.add(new Call("secretHeard", epoch));
        }
        for (int key = 0; key <= keys + 1; key++) {
            all.add(new Call("keyHeard", key));
            for (int person = 0; person < 10; person++) {
                all.add(new Call("holds", person, key));
            }
        }
        return all;
    }

    /** What the call answers, what stands then, and how all persons go on from there. */
    private List<Call> shortLookAfter(Call change) {
        List<Call> all = new ArrayList<>();
        all.add(change);
        all.addAll(counts());
        all.addAll(persons());
        all.addAll(treeOf(newest + 1));
        for (int person = 0; person < 10; person++) {
            all.add(new Call("process", person));
            all.add(new Call("state", person));
        }
        for (int person = 0; person < 10; person++) {
            all.add(new Call("leak", person));
            all.add(new Call("count", 4));
            all.add(new Call("count", 5));
        }
        return all;
    }

    private static List<Call> counts() {
        List<Call> all = new ArrayList<>();
        for (int what = 0; what <= 6; what++) {
            all.add(new Call("count", what));
        }
        return all;
    }

    private static List<Call> persons() {
        List<Call> all = new ArrayList<>();
        for (int person = 0; person < 10; person++) {
            all.add(new Call("state", person));
            all.add(new Call("epoch", person));
            all.add(new Call("leaf", person));
        }
        return all;
    }

    private static List<Call> treeOf(int epoch) {
        List<Call> all = new ArrayList<>();
        for (int node = 1; node <= 15; node++) {
            all.add(new Call("key", epoch, node));
            all.add(new Call("unmerged", epoch, node));
        }
        all.add(new Call("sent", epoch));
        return all;
    }
}

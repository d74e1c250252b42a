import java.util.ArrayList;
import java.util.HashMap;
import java.util.HashSet;
import java.util.List;
import java.util.Map;
import java.util.Set;
import java.util.TreeSet;

/**
 * The document's terms written out a second time, with sets, lists and a
 * search to the fixed point, as something to compare the program with. It
 * shares no code and no shape with the program on purpose.
 */
final class PlainGroup {
    private static final int REFUSED = -1;
    private static final int FULL = -2;
    private static final int STALE = -3;
    private static final int STRANGER = 0;
    private static final int READY = 1;
    private static final int MEMBER = 2;
    private static final int OUT = 3;

    private record Proposal(String kind, int subject, int key) { }

    /** If all facts of `from` are known, `then` gets known. */
    private record Rule(Set<String> from, String then) { }

    private static final class Snapshot {
        final Map<Integer, Integer> keys = new HashMap<>();
        final Map<Integer, Set<Integer>> unmerged = new HashMap<>();
        final Set<Integer> removed = new HashSet<>();
        int messages = 0;

        Snapshot copyOfTree() {
            Snapshot copy = new Snapshot();
            copy.keys.putAll(keys);
            unmerged.forEach((node, leaves) -> copy.unmerged.put(node, new TreeSet<>(leaves)));
            return copy;
        }

        boolean blank(int node) {
            return !keys.containsKey(node);
        }

        void makeBlank(int node) {
            keys.remove(node);
            unmerged.remove(node);
        }

        Set<Integer> unmergedOf(int node) {
            return unmerged.getOrDefault(node, Set.of());
        }

        List<Integer> resolution(int node) {
            List<Integer> all = new ArrayList<>();
            if (!blank(node)) {
                all.add(node);
                for (int leaf : unmergedOf(node)) {
                    all.add(8 + leaf);
                }
            } else if (node < 8) {
                all.addAll(resolution(2 * node));
                all.addAll(resolution(2 * node + 1));
            }
            return all;
        }
    }

    private final int[] states = new int[10];
    private final int[] epochs = new int[10];
    private final int[] leaves = new int[10];
    private final int[] published = new int[10];
    private final List<Snapshot> history = new ArrayList<>();
    private final List<Proposal> proposals = new ArrayList<>();
    private final List<Rule> rules = new ArrayList<>();
    private final Set<String> heard = new HashSet<>();
    private int keys = 0;

    private static boolean person(int p) {
        return 0 <= p && p <= 9;
    }

    private boolean isEpoch(int e) {
        return 0 <= e && e < history.size();
    }

    private int newest() {
        return history.size() - 1;
    }

    private static List<Integer> above(int node) {
        List<Integer> all = new ArrayList<>();
        for (int n = node / 2; n >= 1; n /= 2) {
            all.add(n);
        }
        return all;
    }

    private boolean proposed(String kind, int subject) {
        return proposals.stream().anyMatch(p -> p.kind().equals(kind) && p.subject() == subject);
    }

    private int proposed(String kind) {
        return (int) proposals.stream().filter(p -> p.kind().equals(kind)).count();
    }

    int found(int p) {
        if (!person(p) || !history.isEmpty() || states[p] == READY) {
            return REFUSED;
        }
        Snapshot first = new Snapshot();
        first.keys.put(8, ++keys);
        history.add(first);
        states[p] = MEMBER;
        leaves[p] = 0;
        epochs[p] = 0;
        return keys;
    }

    int publish(int p) {
        if (!person(p) || states[p] == READY || states[p] == MEMBER) {
            return REFUSED;
        }
        if (keys == 120) {
            return FULL;
        }
        states[p] = READY;
        published[p] = ++keys;
        return keys;
    }

    int add(int p) {
        if (!person(p) || history.isEmpty() || states[p] != READY || proposed("add", p)) {
            return REFUSED;
        }
        int blank = 8 - count(6);
        if (blank + proposed("remove") <= proposed("add")) {
            return FULL;
        }
        proposals.add(new Proposal("add", p, published[p]));
        return proposals.size();
    }

    int remove(int leaf) {
        if (leaf < 0 || leaf > 7 || history.isEmpty()) {
            return REFUSED;
        }
        if (history.get(newest()).blank(8 + leaf) || proposed("remove", leaf)) {
            return REFUSED;
        }
        proposals.add(new Proposal("remove", leaf, 0));
        return proposals.size();
    }

    int update(int p) {
        if (!person(p) || states[p] != MEMBER || proposed("update", p)) {
            return REFUSED;
        }
        if (epochs[p] != newest()) {
            return STALE;
        }
        if (keys == 120) {
            return FULL;
        }
        proposals.add(new Proposal("update", p, ++keys));
        return keys;
    }

    int commit(int p) {
        if (!person(p) || states[p] != MEMBER || proposed("remove", leaves[p])) {
            return REFUSED;
        }
        if (epochs[p] != newest()) {
            return STALE;
        }
        if (newest() == 20 || keys > 116) {
            return FULL;
        }
        int number = newest() + 1;
        Snapshot middle = middleTree(p, number);
        Snapshot next = middle.copyOfTree();
        next.removed.addAll(middle.removed);
        int own = 8 + leaves[p];
        next.keys.put(own, ++keys);
        for (int node : above(own)) {
            next.keys.put(node, ++keys);
            next.unmerged.remove(node);
        }
        send(middle, next, own, number);
        history.add(next);
        epochs[p] = number;
        proposals.clear();
        hear();
        return number;
    }

    private Snapshot middleTree(int committer, int number) {
        Snapshot middle = history.get(newest()).copyOfTree();
        for (Proposal u : proposals) {
            if (u.kind().equals("update") && u.subject() != committer) {
                middle.keys.put(8 + leaves[u.subject()], u.key());
                above(8 + leaves[u.subject()]).forEach(middle::makeBlank);
            }
        }
        for (Proposal r : proposals) {
            if (r.kind().equals("remove")) {
                middle.makeBlank(8 + r.subject());
                above(8 + r.subject()).forEach(middle::makeBlank);
                middle.removed.add(r.subject());
            }
        }
        for (Proposal a : proposals) {
            if (a.kind().equals("add")) {
                int leaf = 0;
                while (!middle.blank(8 + leaf)) {
                    leaf++;
                }
                middle.keys.put(8 + leaf, a.key());
                for (int node : above(8 + leaf)) {
                    if (!middle.blank(node)) {
                        middle.unmerged.computeIfAbsent(node, n -> new TreeSet<>()).add(leaf);
                    }
                }
                states[a.subject()] = MEMBER;
                leaves[a.subject()] = leaf;
                epochs[a.subject()] = number;
            }
        }
        return middle;
    }

    private void send(Snapshot middle, Snapshot next, int own, int number) {
        List<Integer> path = above(own);
        Set<Integer> addedNodes = new HashSet<>();
        for (Proposal a : proposals) {
            if (a.kind().equals("add")) {
                addedNodes.add(8 + leaves[a.subject()]);
            }
        }
        for (int p : path) {
            for (int c = 2 * p; c <= 2 * p + 1; c++) {
                if (c == own || path.contains(c)) {
                    continue;
                }
                for (int node : middle.resolution(c)) {
                    if (!addedNodes.contains(node)) {
                        message(next, middle.keys.get(node), "key " + next.keys.get(p));
                    }
                }
            }
        }
        for (Proposal a : proposals) {
            if (a.kind().equals("add")) {
                List<Integer> meeting = above(8 + leaves[a.subject()]);
                meeting.retainAll(path);
                message(next, a.key(), "key " + next.keys.get(meeting.get(0)));
                message(next, a.key(), "secret " + number);
            }
        }
        for (int i = 0; i + 1 < path.size(); i++) {
            rules.add(new Rule(Set.of("key " + next.keys.get(path.get(i))), "key " + next.keys.get(path.get(i + 1))));
        }
        rules.add(new Rule(Set.of("secret " + (number - 1), "key " + next.keys.get(1)), "secret " + number));
    }

    private void message(Snapshot next, int lock, String content) {
        next.messages++;
        rules.add(new Rule(Set.of("key " + lock), content));
    }

    private void hear() {
        boolean grown = true;
        while (grown) {
            grown = false;
            for (int i = rules.size() - 1; i >= 0; i--) {
                if (heard.containsAll(rules.get(i).from())) {
                    grown |= heard.add(rules.get(i).then());
                }
            }
        }
    }

    int process(int p) {
        if (!person(p) || states[p] != MEMBER || epochs[p] == newest()) {
            return REFUSED;
        }
        if (history.get(epochs[p] + 1).removed.contains(leaves[p])) {
            states[p] = OUT;
            return OUT;
        }
        return ++epochs[p];
    }

    private Set<Integer> held(int p) {
        Set<Integer> all = new HashSet<>();
        if (states[p] == READY) {
            all.add(published[p]);
        }
        if (states[p] == MEMBER) {
            Snapshot tree = history.get(epochs[p]);
            all.add(tree.keys.get(8 + leaves[p]));
            for (int node : above(8 + leaves[p])) {
                if (!tree.blank(node) && !tree.unmergedOf(node).contains(leaves[p])) {
                    all.add(tree.keys.get(node));
                }
            }
            for (Proposal u : proposals) {
                if (u.kind().equals("update") && u.subject() == p) {
                    all.add(u.key());
                }
            }
        }
        return all;
    }

    int leak(int p) {
        if (!person(p)) {
            return REFUSED;
        }
        int fresh = 0;
        for (int k : held(p)) {
            fresh += heard.add("key " + k) ? 1 : 0;
        }
        if (states[p] == MEMBER) {
            heard.add("secret " + epochs[p]);
        }
        hear();
        return fresh;
    }

    int state(int p) {
        return person(p) ? states[p] : REFUSED;
    }

    int epoch(int p) {
        return person(p) && states[p] == MEMBER ? epochs[p] : REFUSED;
    }

    int leaf(int p) {
        return person(p) && states[p] == MEMBER ? leaves[p] : REFUSED;
    }

    int key(int e, int node) {
        if (!isEpoch(e) || node < 1 || node > 15) {
            return REFUSED;
        }
        return history.get(e).keys.getOrDefault(node, 0);
    }

    int unmerged(int e, int node) {
        if (!isEpoch(e) || node < 1 || node > 15) {
            return REFUSED;
        }
        return history.get(e).unmergedOf(node).stream().mapToInt(leaf -> 1 << leaf).sum();
    }

    int resolution(int e, int node, int i) {
        if (!isEpoch(e) || node < 1 || node > 15) {
            return REFUSED;
        }
        List<Integer> all = history.get(e).resolution(node);
        if (i == -1) {
            return all.size();
        }
        return i >= 0 && i < all.size() ? all.get(i) : REFUSED;
    }

    int sent(int e) {
        return isEpoch(e) && e > 0 ? history.get(e).messages : REFUSED;
    }

    boolean holds(int p, int key) {
        return person(p) && held(p).contains(key);
    }

    boolean keyHeard(int key) {
        return heard.contains("key " + key);
    }

    boolean secretHeard(int e) {
        return heard.contains("secret " + e);
    }

    int count(int what) {
        return switch (what) {
            case 0 -> newest();
            case 1 -> keys;
            case 2 -> proposals.size();
            case 3 -> (int) java.util.Arrays.stream(states).filter(s -> s == MEMBER).count();
            case 4 -> (int) heard.stream().filter(f -> f.startsWith("key")).count();
            case 5 -> (int) heard.stream().filter(f -> f.startsWith("secret")).count();
            case 6 -> history.isEmpty() ? 0
                    : (int) history.get(newest()).keys.keySet().stream().filter(n -> n >= 8).count();
            default -> -2;
        };
    }
}

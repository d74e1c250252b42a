import java.util.Arrays;
import java.util.stream.Collectors;

/** One call of the face with its arguments; a boolean answer counts 1 or 0. */
record Call(String name, int... arguments) {
    private int first() {
        return arguments[0];
    }

    private int second() {
        return arguments[1];
    }

    long on(KeyTreeGroup x) {
        return switch (name) {
            case "found" -> x.found(first());
            case "publish" -> x.publish(first());
            case "add" -> x.add(first());
            case "remove" -> x.remove(first());
            case "update" -> x.update(first());
            case "commit" -> x.commit(first());
            case "process" -> x.process(first());
            case "leak" -> x.leak(first());
            case "state" -> x.state(first());
            case "epoch" -> x.epoch(first());
            case "leaf" -> x.leaf(first());
            case "key" -> x.key(first(), second());
            case "unmerged" -> x.unmerged(first(), second());
            case "resolution" -> x.resolution(first(), second(), arguments[2]);
            case "sent" -> x.sent(first());
            case "holds" -> x.holds(first(), second()) ? 1 : 0;
            case "keyHeard" -> x.keyHeard(first()) ? 1 : 0;
            case "secretHeard" -> x.secretHeard(first()) ? 1 : 0;
            case "count" -> x.count(first());
            default -> throw new IllegalArgumentException("the face has no " + name);
        };
    }

    @Override
    public String toString() {
        return name + Arrays.stream(arguments).mapToObj(String::valueOf).collect(Collectors.joining(", ", "(", ")"));
    }
}

import java.util.Arrays;
import java.util.stream.Collectors;

/** One call of the face, which can be made on an object and told. */
record Call(String name, long... args) {
    static final String[] NAMES = {"begin", "unit", "add", "change", "prove", "count", "steps", "depth", "walk"};

    private static final int[] PARAMETERS = {1, 2, 4, 6, 0, 1, 1, 1, 1};

    int kind() {
        return Arrays.asList(NAMES).indexOf(name);
    }

    boolean isOfFace() {
        return kind() >= 0 && PARAMETERS[kind()] == args.length;
    }

    int on(CodeProof x) {
        switch (name) {
            case "begin":
                return x.begin(at(0));
            case "unit":
                return x.unit(at(0), at(1));
            case "add":
                return x.add(at(0), at(1), at(2), at(3));
            case "change":
                return x.change(at(0), at(1), at(2), at(3), at(4), at(5));
            case "prove":
                return x.prove();
            case "count":
                return x.count(at(0));
            case "steps":
                return x.steps(at(0));
            case "depth":
                return x.depth(at(0));
            case "walk":
                return x.walk(args[0]);
            default:
                throw new IllegalArgumentException("no such call: " + this);
        }
    }

    int at(int which) {
        return Math.toIntExact(args[which]);
    }

    @Override
    public String toString() {
        return name + Arrays.stream(args).mapToObj(Long::toString).collect(Collectors.joining(", ", "(", ")"));
    }
}

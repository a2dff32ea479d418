import java.io.IOException;
import java.nio.file.Files;
import java.nio.file.Path;
import java.util.Arrays;
import java.util.Set;
import java.util.TreeSet;
import java.util.regex.Matcher;
import java.util.regex.Pattern;
import java.util.stream.Collectors;
import java.util.stream.Stream;

/** README.md tells the truth: the calls that it shows, the methods and the tests that it names. */
public final class ReadmeTest {
    private static final Path README = Path.of("README.md");
    private static final Path PROGRAM = Path.of("src/main/java/CodeProof.java");
    private static final Path TESTS = Path.of("src/test/java");
    private static final Pattern SHOWN = Pattern.compile("x\\.(\\w+)\\(([^)]*)\\); *// (BAD|-?\\d+): \\S.*");
    private static final Pattern SIGNATURE = Pattern.compile("public (int \\w+\\(.*\\)) \\{");
    private static final Pattern NAMED_TEST = Pattern.compile("\\| `(\\w+Test)` \\|");
    private static final String FRESH = "CodeProof x = new CodeProof();";

    private final Set<String> answering = new TreeSet<>();
    private final Set<String> refused = new TreeSet<>();
    private CodeProof x;

    public static void main(String[] args) throws IOException {
        String text = Files.readString(README);
        ReadmeTest test = new ReadmeTest();
        test.callsAnswerWhatIsTold(text);
        test.everyMethodIsShown();
        everyMethodIsNamed(text);
        everyTestIsNamed(text);
        Check.end();
    }

    private void callsAnswerWhatIsTold(String text) {
        boolean isJava = false;
        for (String line : text.split("\n")) {
            if (line.startsWith("```")) {
                isJava = line.equals("```java");
                x = null;
            } else if (isJava) {
                tryLine(line);
            }
        }
    }

    private void tryLine(String line) {
        if (line.equals(FRESH)) {
            x = new CodeProof();
            return;
        }
        Matcher shown = SHOWN.matcher(line);
        boolean isCall = shown.matches() && x != null;
        Check.holds("a call with its answer, on an object: " + line, isCall);
        if (isCall) {
            tryCall(callOf(shown.group(1), shown.group(2)), shown.group(3));
        }
    }

    private static Call callOf(String name, String args) {
        long[] numbers = Arrays.stream(args.split(",")).map(arg -> arg.replace("L", "").trim())
                .filter(arg -> !arg.isEmpty()).mapToLong(Long::parseLong).toArray();
        return new Call(name, numbers);
    }

    private void tryCall(Call call, String told) {
        Check.holds("a call of the face: " + call, call.isOfFace());
        if (call.isOfFace()) {
            boolean isBad = told.equals("BAD");
            Check.due("README.md: " + call, call.on(x), isBad ? CodeProof.BAD : Integer.parseInt(told));
            (isBad ? refused : answering).add(call.name());
        }
    }

    private void everyMethodIsShown() {
        for (String name : Call.NAMES) {
            Check.holds(name + " is shown with an answer", answering.contains(name));
            Check.holds(name + " is shown with BAD, unless it is never", refused.contains(name) || name.equals("prove"));
        }
    }

    /** Each signature as it stands in the class. */
    private static void everyMethodIsNamed(String text) throws IOException {
        Matcher signature = SIGNATURE.matcher(Files.readString(PROGRAM));
        int many = 0;
        while (signature.find()) {
            many++;
            Check.holds(signature.group(1) + " is named", text.contains("| `" + signature.group(1) + "` |"));
        }
        Check.due("the methods of the face", many, Call.NAMES.length);
    }

    private static void everyTestIsNamed(String text) throws IOException {
        Set<String> named = new TreeSet<>();
        Matcher test = NAMED_TEST.matcher(text);
        while (test.find()) {
            named.add(test.group(1));
        }
        try (Stream<Path> files = Files.list(TESTS)) {
            Set<String> there = files.map(file -> file.getFileName().toString())
                    .filter(file -> file.endsWith("Test.java")).map(file -> file.replace(".java", ""))
                    .collect(Collectors.toCollection(TreeSet::new));
            Check.same("the tests in README.md", named.toString(), there.toString());
        }
    }
}

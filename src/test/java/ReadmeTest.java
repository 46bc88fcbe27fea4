import java.io.IOException;
import java.nio.file.Files;
import java.nio.file.Path;
import java.util.ArrayList;
import java.util.List;
import java.util.regex.Matcher;
import java.util.regex.Pattern;

/** Makes the calls of the example in README.md: what the class answers has to stand behind each. */
public final class ReadmeTest {
    private static final Pattern TYPED_OR_FED = Pattern.compile("for \\(char c : \"(.*)\"\\.toCharArray");
    private static final Pattern CALL = Pattern.compile("(?m)^ *x\\.(.*); +// ([^: ]+)");

    public static void main(String[] args) throws IOException {
        String readme = Files.readString(Path.of("README.md"));
        List<String> rows = all(TYPED_OR_FED, readme);
        List<String> told = all(CALL, readme);
        List<String> answers = rows.size() == 2 ? answers(rows.get(0), rows.get(1)) : List.of();
        if (answers.isEmpty() || !answers.equals(told)) {
            System.out.println("README.md tells\n" + told + "\nand the class answers\n" + answers);
            System.exit(1);
        }
        System.out.println("README.md tells what is so");
    }

    /** The groups of each place that fits, with = between. */
    private static List<String> all(Pattern pattern, String readme) {
        List<String> found = new ArrayList<>();
        for (Matcher m = pattern.matcher(readme); m.find();) {
            found.add(m.groupCount() == 1 ? m.group(1) : m.group(1) + " = " + m.group(2));
        }
        return found;
    }

    private static List<String> answers(String text, String subject) {
        GrammarMachine x = new GrammarMachine();
        List<String> answers = new ArrayList<>();
        answers.add("type(c) = " + text.chars().allMatch(c -> x.type((char) c)));
        answers.add("compile() = " + x.compile());
        answers.add("fault() = " + x.fault());
        answers.add("empty('A') = " + x.empty('A'));
        answers.add("head('A', '(') = " + x.head('A', '('));
        answers.add("feed(c) = " + subject.chars().allMatch(c -> x.feed((char) c)));
        answers.add("match(true) = " + x.match(true));
        answers.add("work() = " + x.work());
        answers.add("match(false) = " + x.match(false));
        answers.add("work() = " + x.work());
        answers.add("nodes() = " + x.nodes());
        for (int what = 0; what < 3; what++) {
            answers.add("node(1, " + what + ") = " + x.node(1, what));
        }
        return answers;
    }
}

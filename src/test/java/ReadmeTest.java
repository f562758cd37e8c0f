import java.io.IOException;
import java.io.UncheckedIOException;
import java.nio.charset.StandardCharsets;
import java.nio.file.Files;
import java.nio.file.Path;
import java.util.ArrayList;
import java.util.Comparator;
import java.util.List;
import java.util.TreeSet;
import java.util.regex.Matcher;
import java.util.regex.Pattern;
import java.util.stream.Stream;

/** What README.md shows of the class's use is what the class does. */
public final class ReadmeTest {
    private static final String MAKING = "ExamGarden garden = new ExamGarden();";
    private static final Pattern ANSWERED =
            Pattern.compile("garden\\.(\\w+)\\(([^)]*)\\);\\s+// (throws \\w+|[^ :]+)(: .+)?");
    private static final Pattern DECLARED = Pattern.compile("public \\w+ (\\w+)\\(([^)]*)\\)( throws (.*))?;");
    private static final Pattern ROW = Pattern.compile("\\| `(.*?)` \\| [^|]+ \\|( ([^|]*))?\\|");
    private static final Pattern THROWN = Pattern.compile("`(\\w+Exception)`");

    private final Checks checks = new Checks();
    private final Page readme = new Page(Page.README);

    public static void main(String[] args) throws IOException, InterruptedException {
        ReadmeTest test = new ReadmeTest();
        test.programPrintsWhatIsShown();
        test.callsAnswerWhatIsShown();
        test.tableHasEachCall();
        test.checks.finish();
    }

    private void programPrintsWhatIsShown() throws IOException, InterruptedException {
        Path place = Files.createTempDirectory("readme");
        Path source = place.resolve(Page.SOURCE);
        Files.createDirectories(source.getParent());
        Files.copy(Path.of(Page.SOURCE), source);
        Files.write(place.resolve("Walk.java"), readme.blocks("java").get(0));
        StringBuilder printed = new StringBuilder();
        for (String command : readme.blocks("sh").get(0)) {
            printed.append(printedBy(command, place));
        }
        checks.sameText("what the program prints", printed.toString(), joined(readme.blocks("text").get(0)));
        remove(place);
    }

    private static String printedBy(String command, Path place) throws IOException, InterruptedException {
        Process process = new ProcessBuilder(command.split(" ")).directory(place.toFile())
                .redirectError(ProcessBuilder.Redirect.INHERIT).start();
        String printed = new String(process.getInputStream().readAllBytes(), StandardCharsets.UTF_8);
        int code = process.waitFor();
        return code == 0 ? printed : printed + command + " ended with " + code + "\n";
    }

    private static String joined(List<String> lines) {
        return String.join("\n", lines) + "\n";
    }

    private static void remove(Path top) throws IOException {
        try (Stream<Path> paths = Files.walk(top)) {
            for (Path path : paths.sorted(Comparator.reverseOrder()).toList()) {
                Files.delete(path);
            }
        }
    }

    private void callsAnswerWhatIsShown() {
        ExamGarden garden = null;
        TreeSet<String> shown = new TreeSet<>();
        List<List<String>> blocks = readme.blocks("java");
        for (List<String> block : blocks.subList(1, blocks.size())) {
            for (String line : block) {
                Matcher call = ANSWERED.matcher(line);
                if (line.equals(MAKING)) {
                    garden = new ExamGarden();
                } else if (call.matches()) {
                    String answer = ByName.ask(garden, call.group(1), argumentsOf(call.group(2)));
                    checks.sameText(line, answer.replace("java.lang.", ""), call.group(3));
                    shown.add(call.group(1));
                } else {
                    checks.sameText("a line that shows no call with its answer", line, "");
                }
            }
        }
        TreeSet<String> declared = new TreeSet<>();
        for (Matcher method : declarations()) {
            declared.add(method.group(1));
        }
        checks.sameText("the calls shown with an answer", shown.toString(), declared.toString());
    }

    private static Object[] argumentsOf(String text) {
        List<Object> found = new ArrayList<>();
        for (String word : text.isEmpty() ? new String[0] : text.split(", ")) {
            boolean isTruth = word.equals("true") || word.equals("false");
            found.add(isTruth ? (Object) Boolean.valueOf(word) : (Object) Integer.valueOf(word));
        }
        return found.toArray();
    }

    private void tableHasEachCall() {
        List<String> due = new ArrayList<>();
        for (Matcher method : declarations()) {
            String thrown = method.group(4) == null ? "" : method.group(4);
            String names = method.group(2).replaceAll("(int|boolean) ", "");
            due.add(method.group(1) + "(" + names + ") throws [" + thrown + "]");
        }
        List<String> got = new ArrayList<>();
        for (String line : readme.lines) {
            Matcher row = ROW.matcher(line);
            if (row.matches()) {
                got.add(row.group(1) + " throws " + exceptionsIn(row.group(3)));
            }
        }
        checks.sameText("the table of calls", joined(got), joined(due));
    }

    private static List<String> exceptionsIn(String cell) {
        List<String> found = new ArrayList<>();
        Matcher thrown = THROWN.matcher(cell == null ? "" : cell);
        while (thrown.find()) {
            found.add(thrown.group(1));
        }
        return found;
    }

    private static List<Matcher> declarations() {
        List<Matcher> found = new ArrayList<>();
        for (String line : Page.face()) {
            Matcher method = DECLARED.matcher(line);
            if (method.matches()) {
                found.add(method);
            }
        }
        return found;
    }
}

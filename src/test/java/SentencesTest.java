import java.io.IOException;
import java.nio.file.Files;
import java.nio.file.Path;
import java.util.ArrayList;
import java.util.List;
import java.util.regex.Matcher;
import java.util.regex.Pattern;
import java.util.stream.Stream;

/**
 * The tests of the promises against the document: each sentence that a test names stands there, each test is run,
 * and no word of the promises, nor of the terms that they stand on, is left without a test that names it.
 */
public final class SentencesTest {
    private static final Check CHECK = new Check("SentencesTest");
    private static final Path DOCUMENT = Path.of("../shared/DOC.md");
    private static final int PROMISES = 27;
    private static final Pattern TEST = Pattern.compile("(?m)^    private static void (\\w+)\\(\\) \\{\n"
            + "        CHECK\\.sentence\\((\"(?s:.*?)\")\\);$");

    /** Sections 1 to 27 are the promises, 0 the terms and what the document says of an object's use. */
    private final String[] sections = new String[PROMISES + 1];
    private final boolean[][] named = new boolean[PROMISES + 1][];

    public static void main(String[] args) throws IOException {
        SentencesTest test = new SentencesTest();
        test.readDocument();
        for (Path file : filesOfPromises()) {
            test.readTests(file);
        }
        test.lookForWhatIsLeft();
        CHECK.end();
    }

    private static List<Path> filesOfPromises() throws IOException {
        try (Stream<Path> files = Files.list(Path.of("src/test/java"))) {
            return files.filter(file -> file.getFileName().toString().startsWith("Promise")).sorted().toList();
        }
    }

    private void readDocument() throws IOException {
        StringBuilder[] texts = new StringBuilder[PROMISES + 1];
        int section = -1;
        for (String line : Files.readAllLines(DOCUMENT)) {
            if (line.startsWith("## ")) {
                section = sectionOf(line);
            } else if (section >= 0 && isOfTheText(line)) {
                texts[section] = texts[section] == null ? new StringBuilder() : texts[section];
                texts[section].append(plain(line)).append(' ');
            }
        }
        for (int i = 0; i <= PROMISES; i++) {
            CHECK.holds("the document has the section " + i, texts[i] != null);
            sections[i] = texts[i] == null ? "" : texts[i].toString().replaceAll("\\s+", " ");
            named[i] = new boolean[sections[i].length()];
        }
    }

    private static int sectionOf(String heading) {
        Matcher promise = Pattern.compile("## Promise (\\d+): .*").matcher(heading);
        if (promise.matches()) {
            return Integer.parseInt(promise.group(1));
        }
        return heading.equals("## Terms") || heading.equals("## What it is") ? 0 : -1;
    }

    /** Headings, titles of paragraphs and what the interface says ahead of calls are no sentences of a promise. */
    private static boolean isOfTheText(String line) {
        return !line.startsWith("#") && !line.startsWith("Ahead of the calls")
                && !line.startsWith("Marching shows from")
                && !line.matches("[A-Z][a-z ,]*:?");
    }

    /** A line without marks of code and of lists, and without the call's head, which FaceTest looks at. */
    private static String plain(String line) {
        return line.replaceFirst("^`[^`]*\\([^`]*`: ", "").replace("`", "").replaceFirst("^- ", "");
    }

    private void readTests(Path file) throws IOException {
        String name = file.getFileName().toString();
        String source = Files.readString(file);
        int promise = Integer.parseInt(name.substring("Promise".length(), "Promise".length() + 2));
        Matcher test = TEST.matcher(source);
        int tests = 0;
        while (test.find()) {
            tests++;
            CHECK.holds(name + " runs " + test.group(1), source.contains("\n        " + test.group(1) + "();\n"));
            String sentence = test.group(2).replaceAll("\"\\s*\\+\\s*\"", "").replaceAll("^\"|\"$", "");
            String head = "Promise " + promise + ": ";
            CHECK.holds(name + ": " + sentence + ", of its promise", sentence.startsWith(head));
            CHECK.holds(name + ": " + sentence + ", in the document",
                    isNamed(promise, sentence.substring(head.length())) || isNamed(0,
                            sentence.substring(head.length())));
        }
        CHECK.holds(name + " has tests", tests > 0);
        CHECK.due(name + ": sentences in the first lines of tests", tests,
                source.split("CHECK\\.sentence\\(").length - 1);
    }

    /** Marks a sentence wherever it stands in a section, whole words alone. */
    private boolean isNamed(int section, String sentence) {
        Matcher found = Pattern.compile("(?<!\\w)" + Pattern.quote(sentence) + "(?!\\w)").matcher(sections[section]);
        boolean isFound = false;
        while (found.find()) {
            isFound = true;
            java.util.Arrays.fill(named[section], found.start(), found.end(), true);
        }
        return isFound;
    }

    private void lookForWhatIsLeft() {
        for (int section = 0; section <= PROMISES; section++) {
            for (String left : leftIn(section)) {
                CHECK.holds("named by a test, in the section " + section + ": " + left, false);
            }
            CHECK.holds("the section " + section + " was read", sections[section].length() > 30);
        }
    }

    private List<String> leftIn(int section) {
        List<String> left = new ArrayList<>();
        StringBuilder words = new StringBuilder();
        for (int i = 0; i <= sections[section].length(); i++) {
            if (i < sections[section].length() && !named[section][i]) {
                words.append(sections[section].charAt(i));
            } else {
                if (words.toString().matches(".*\\w.*")) {
                    left.add(words.toString().trim());
                }
                words.setLength(0);
            }
        }
        return left;
    }
}

import java.io.IOException;
import java.nio.file.Files;
import java.nio.file.Path;
import java.util.regex.Matcher;
import java.util.regex.Pattern;

/** What README.md says of the use: its lines are those that stand here, with the answers that they tell. */
public final class ReadmeTest {
    private static final Check CHECK = new Check("ReadmeTest");
    private static final Pattern BLOCK = Pattern.compile("(?s)```java\n(.*?)```");
    private static final Pattern ANSWERED = Pattern.compile("(field\\.\\w+\\(.*\\));\\s*// (-?\\d+|NONE|STEP|NEAR|CROSS):.*");
    private static final Pattern CALL = Pattern.compile("(?m)^    public \\w+ (\\w+)\\(");

    public static void main(String[] args) throws IOException {
        use();
        String readme = Files.readString(Path.of("README.md"));
        sameLines(readme);
        allCallsNamed(readme);
        CHECK.end();
    }

    private static void use() {
        DrillField field = new DrillField();
        int line = field.line(100, 100, 400, 100);
        int wedge = field.wedge(700, 100, 30);
        field.part(line, 8, 120, false);
        field.part(wedge, 32, 120, true);
        CHECK.due("place", field.place(1, 3), 2);
        CHECK.due("walking", field.walking(1), 786800);
        CHECK.due("at", field.at(1, 16, 3), 1130115);
        CHECK.due("fault", field.fault(1, 1), DrillField.STEP);
        field.change(1, wedge, 64, 120, true);
        CHECK.due("fault", field.fault(1, 1), DrillField.NONE);
        CHECK.due("publish", field.publish(), 8);
        CHECK.due("lasts", field.lasts(), 360);
    }

    private static void sameLines(String readme) throws IOException {
        String here = Files.readString(Path.of("src/test/java/ReadmeTest.java"));
        Matcher block = BLOCK.matcher(readme);
        CHECK.holds("README.md shows the use", block.find());
        int answers = 0;
        for (String line : block.group(1).split("\n")) {
            Matcher answered = ANSWERED.matcher(line);
            String due = line.replaceAll("\\s*//.*", "");
            if (answered.matches()) {
                answers++;
                boolean isNumber = answered.group(2).matches("-?\\d+");
                due = answered.group(1) + ", " + (isNumber ? "" : "DrillField.") + answered.group(2) + ");";
            }
            CHECK.holds("is run here: " + line, here.contains(due));
        }
        CHECK.due("answers that README.md tells", answers, here.split("CHECK\\.due\\(\"\\w+\", field").length - 1);
    }

    private static void allCallsNamed(String readme) throws IOException {
        Matcher call = CALL.matcher(Files.readString(Path.of("src/main/java/DrillField.java")));
        int calls = 0;
        while (call.find()) {
            calls++;
            CHECK.holds("README.md names " + call.group(1), readme.contains("`" + call.group(1) + "`"));
        }
        CHECK.due("calls of the face", calls, 26);
    }
}

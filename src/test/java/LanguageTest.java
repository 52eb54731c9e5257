import java.io.IOException;
import java.nio.charset.StandardCharsets;
import java.nio.file.Files;
import java.nio.file.Path;
import java.util.List;
import java.util.Set;
import java.util.regex.Matcher;
import java.util.regex.Pattern;

/** What a text alone can show of the rules of LANGUAGE.md. It runs in the project's folder, where the source is. */
public final class LanguageTest {
    private static final Check CHECK = new Check("LanguageTest");
    private static final int MOST_LINES = 60, MOST_PARAMETERS = 7;
    private static final Set<String> MATH = Set.of("min", "max", "abs", "floorDiv", "floorMod");
    private static final List<String> BANNED = List.of("import", "package", "try", "catch", "finally", "synchronized",
            "assert", "instanceof", "var", "protected", "volatile", "transient", "native", "strictfp", "double", "float",
            "System", "Thread", "Object", "equals", "hashCode", "toString", "->", "::", "@");

    public static void main(String[] args) throws IOException {
        String source = Files.readString(Path.of("src/main/java/DrillField.java"), StandardCharsets.UTF_8);
        CHECK.holds("signs 1 to 126 alone", source.chars().allMatch(sign -> sign == '\n' || sign >= 32 && sign < 127));
        String code = withoutTextsAndComments(source);
        for (String banned : BANNED) {
            boolean isWord = Character.isLetter(banned.charAt(0));
            Pattern pattern = Pattern.compile(isWord ? "\\b" + banned + "\\b" : Pattern.quote(banned));
            CHECK.holds("no " + banned, !pattern.matcher(code).find());
        }
        library(code);
        exceptions(code);
        methods(code);
        CHECK.end();
    }

    private static String withoutTextsAndComments(String source) {
        String code = source.replaceAll("(?s)/\\*.*?\\*/", " ").replaceAll("//[^\n]*", " ");
        return code.replaceAll("\"[^\"\n]*\"", "\"\"");
    }

    private static void library(String code) {
        Matcher called = Pattern.compile("\\b(Math|Integer|Long|Arrays|String|StringBuilder|List|ArrayList)\\b\\.?(\\w*)")
                .matcher(code);
        while (called.find()) {
            boolean isFine = called.group(1).equals("Math") && MATH.contains(called.group(2))
                    || called.group().equals("Long.MAX_VALUE");
            CHECK.holds("of the library: " + called.group(), isFine);
        }
    }

    private static void exceptions(String code) {
        Matcher thrown = Pattern.compile("throw\\s+([^;]*);").matcher(code);
        while (thrown.find()) {
            CHECK.holds("thrown: " + thrown.group(1), thrown.group(1).matches(
                    "new (IllegalStateException|IllegalArgumentException|IndexOutOfBoundsException)\\(\"\"\\)"));
        }
    }

    /** A method's first line stands four or eight signs in and ends with a brace; its last line is a brace there. */
    private static void methods(String code) {
        Matcher method = Pattern.compile("(?m)^( {4}| {8})((?:(?:public|private|static|final) )*[\\w\\[\\]]+ (\\w+))"
                + "\\(([^)]*)\\)[^;{}]*\\{\n(?s:(.*?))^\\1\\}").matcher(code);
        int found = 0;
        while (method.find()) {
            found++;
            String name = method.group(3);
            CHECK.holds("a short method: " + name, method.group(5).split("\n").length <= MOST_LINES);
            CHECK.holds("few parameters: " + name, method.group(4).split(",").length <= MOST_PARAMETERS);
        }
        CHECK.holds("methods are found: " + found, found > 100);
    }
}

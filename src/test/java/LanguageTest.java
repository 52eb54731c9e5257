import java.io.IOException;
import java.lang.reflect.Field;
import java.lang.reflect.Modifier;
import java.nio.charset.StandardCharsets;
import java.nio.file.Files;
import java.nio.file.Path;
import java.util.List;
import java.util.Set;
import java.util.regex.Matcher;
import java.util.regex.Pattern;

/** What the text and the fields alone can show of the rules of LANGUAGE.md. It runs in the project's folder, where the source is. */
public final class LanguageTest {
    private static final Check CHECK = new Check("LanguageTest");
    private static final int MOST_LINES = 60, MOST_PARAMETERS = 7, MOST_FIELDS = 20;
    private static final Set<String> MATH = Set.of("min", "max", "abs", "floorDiv", "floorMod");
    private static final List<String> BANNED = List.of("import", "package", "try", "catch", "finally", "synchronized",
            "assert", "instanceof", "var", "protected", "volatile", "transient", "native", "strictfp", "double", "float",
            "System", "Thread", "Object", "equals", "hashCode", "toString", "->", "::", "@");

    public static void main(String[] args) throws IOException {
        String source = Files.readString(Path.of("src/main/java/DrillField.java"), StandardCharsets.UTF_8);
        CHECK.holds("signs 1 to 126 alone", source.chars().allMatch(sign -> sign == '\n' || sign >= 32 && sign < 127));
        String code = withoutTextsAndComments(source);
        for (String banned : BANNED) {
            boolean isWord = Character.isLetter(banned.charAt(0));
            Pattern pattern = Pattern.compile(isWord ? "\\b" + banned + "\\b" : Pattern.quote(banned));
            CHECK.holds("no " + banned, !pattern.matcher(code).find());
        }
        library(code);
        exceptions(code);
        methods(code);
        constructors(code);
        fields(DrillField.class);
        for (Class<?> inside : DrillField.class.getDeclaredClasses()) {
            fields(inside);
        }
        CHECK.end();
    }

    private static String withoutTextsAndComments(String source) {
        String code = source.replaceAll("(?s)/\\*.*?\\*/", " ").replaceAll("//[^\n]*", " ");
        return code.replaceAll("\"[^\"\n]*\"", "\"\"");
    }

    private static void library(String code) {
        Matcher called = Pattern.compile("\\b(Math|Integer|Long|Arrays|String|StringBuilder|List|ArrayList)\\b\\.?(\\w*)")
                .matcher(code);
        while (called.find()) {
            boolean isFine = called.group(1).equals("Math") && MATH.contains(called.group(2));
            CHECK.holds("of the library: " + called.group(), isFine);
        }
    }

    private static void exceptions(String code) {
        Matcher thrown = Pattern.compile("throw\\s+([^;]*);").matcher(code);
        while (thrown.find()) {
            CHECK.holds("thrown: " + thrown.group(1), thrown.group(1).matches(
                    "new (IllegalStateException|IllegalArgumentException|IndexOutOfBoundsException)\\(\"\"\\)"));
        }
    }

    /** A method's first line stands four or eight signs in and ends with a brace; its last line is a brace there. */
    private static void methods(String code) {
        Matcher method = Pattern.compile("(?m)^( {4}| {8})((?:(?:public|private|static|final) )*[\\w\\[\\]]+ (\\w+))"
                + "\\(([^)]*)\\)[^;{}]*\\{\n(?s:(.*?))^\\1\\}").matcher(code);
        int found = 0;
        while (method.find()) {
            found++;
            String name = method.group(3);
            CHECK.holds("a short method: " + name, method.group(5).split("\n").length <= MOST_LINES);
            CHECK.holds("few parameters: " + name, method.group(4).split(",").length <= MOST_PARAMETERS);
        }
        CHECK.holds("methods are found: " + found, found > 100);
    }

    private static void constructors(String code) {
        Matcher constructor = Pattern.compile("(?m)^( {4}| {8})(?:public )?([A-Z]\\w*)\\(([^)]*)\\) \\{\n(?s:(.*?))^\\1\\}")
                .matcher(code);
        int found = 0;
        while (constructor.find()) {
            found++;
            CHECK.holds("no throw in the constructor of " + constructor.group(2),
                    !constructor.group(4).matches("(?s).*\\bthrow\\b.*"));
        }
        CHECK.holds("constructors are found: " + found, found > 1);
    }

    private static void fields(Class<?> of) {
        int own = 0;
        for (Field field : of.getDeclaredFields()) {
            String name = of.getSimpleName() + "." + field.getName();
            if (Modifier.isStatic(field.getModifiers())) {
                CHECK.holds("a constant: " + name, Modifier.isFinal(field.getModifiers())
                        && (field.getType() == int.class || field.getType() == long.class));
            } else {
                own++;
            }
            CHECK.holds("a type of the rules: " + name, isOfTheRules(field.getType()));
        }
        CHECK.holds("few fields: " + of.getSimpleName() + " has " + own, own <= MOST_FIELDS);
    }

    /** Numbers, texts and own classes; rows of numbers and of own classes; rows of rows of numbers. */
    private static boolean isOfTheRules(Class<?> type) {
        Class<?> part = type.isArray() ? type.getComponentType() : type;
        if (part.isArray()) {
            return part.getComponentType().isPrimitive();
        }
        return part.isPrimitive() || part == String.class || part.getEnclosingClass() == DrillField.class;
    }
}

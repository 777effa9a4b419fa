import java.io.IOException;
import java.nio.file.Files;
import java.nio.file.Path;
import java.util.Set;
import java.util.regex.Matcher;
import java.util.regex.Pattern;

/** What LANGUAGE.md says that can be seen in the class's text; FaceTest tells of its members. */
public final class LanguageTest {
    private static final Path FILE = Path.of("src/main/java/StackGuard.java");
    private static final int LONGEST_METHOD = 60;

    public static void main(String[] args) throws IOException {
        String code = withoutCommentsAndTexts(Files.readString(FILE));
        onlyOf("rules 3 and 4: import", "import ([\\w.]+);", code,
                Set.of("java.util.ArrayList", "java.util.List", "java.util.Arrays", "java.util.Iterator",
                        "java.util.NoSuchElementException"));
        onlyOf("rule 6: throw", "\\bthrow (\\w+ \\w+)", code,
                Set.of("new IllegalStateException", "new IllegalArgumentException", "new NoSuchElementException"));
        onlyOf("rule 4: Math", "\\bMath\\.(\\w+)", code, Set.of("max", "min", "abs", "floorDiv", "floorMod"));
        onlyOf("rule 4: Integer", "\\bInteger\\.(\\w+)", code, Set.of("compare", "max", "min", "bitCount"));
        none("rule 2: lambda or method reference", "->|::", code);
        none("rule 5: static initialiser", "\\bstatic\\s*\\{", code);
        none("rule 6: word", "\\b(finally|synchronized|assert|try|catch|extends \\w*Exception)\\b", code);
        none("rule 6: own equals, hashCode or toString", "\\b(equals|hashCode|toString)\\(\\w+ ", code);
        none("rule 9: loop without a bound", "while \\(true\\)|for \\(;|;\\s*;", code);
        none("rule 12: for over a list", "for \\(\\w+ \\w+ :", code);
        none("rule 13: world outside", "\\b(System\\.(?!arraycopy)|Random|Thread|java\\.(io|nio|net|time))\\b", code);
        none("the package line", "(?m)^package ", code);
        methodsAreShort(code);
        oneBuilderACall(code);
        Expect.finish();
    }

    private static String withoutCommentsAndTexts(String code) {
        return code.replaceAll("(?s)/\\*.*?\\*/", "").replaceAll("//[^\n]*", "")
                .replaceAll("'(\\\\.|[^'\\\\])'", "' '").replaceAll("\"(\\\\.|[^\"\\\\])*\"", "\"\"");
    }

    private static void onlyOf(String what, String pattern, String code, Set<String> fine) {
        Matcher matcher = Pattern.compile(pattern).matcher(code);
        while (matcher.find()) {
            Expect.same(what + " " + matcher.group(1) + " is fine", true, fine.contains(matcher.group(1)));
        }
    }

    private static void none(String what, String pattern, String code) {
        Matcher matcher = Pattern.compile(pattern).matcher(code);
        Expect.same(what, "none", matcher.find() ? matcher.group() : "none");
    }

    /** A method begins and ends by lines of the same indent, 4 in the class and 8 in one inside it. */
    private static void methodsAreShort(String code) {
        Matcher method = Pattern.compile("(?ms)^( {4}| {8})[^\\s}][^\n;]*\\)[^\n;]* \\{\n.*?^\\1\\}").matcher(code);
        int count = 0;
        while (method.find()) {
            String text = method.group();
            Expect.same("rule 11: is short: " + text.split("\n")[0].trim(), true,
                    text.split("\n").length <= LONGEST_METHOD);
            count++;
        }
        Expect.same("rule 11: methods were found", true, count > 19);
    }

    private static void oneBuilderACall(String code) {
        int builders = code.split("new StringBuilder", -1).length - 1;
        Expect.same("rule 12: the pad's builder, and one that a call makes", true, builders <= 2);
    }
}

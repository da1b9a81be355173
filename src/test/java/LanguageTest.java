import java.io.IOException;
import java.nio.file.Files;
import java.nio.file.Path;
import java.util.List;
import java.util.Set;
import java.util.TreeSet;
import java.util.regex.Matcher;
import java.util.regex.Pattern;

/** What LANGUAGE.md forbids and the source's words show; run in the project's folder. */
public final class LanguageTest {
    private static final Check CHECK = new Check("LanguageTest");
    private static final Set<String> LIBRARY = Set.of("Arrays.fill", "System.arraycopy", "Math.max", "Math.min",
            "WORDS.charAt", "WORDS.length");

    public static void main(String[] args) throws IOException {
        String source = Files.readString(Path.of("src/main/java/SkyBox.java"));
        String code = source.replaceAll("(?s)/\\*.*?\\*/", " ").replaceAll("//[^\n]*", " ")
                .replaceAll("\"[^\"\n]*\"", "\"\"").replaceAll("'[^'\n]*'", "0");
        words(code);
        library(code);
        methodLengths(source);
        CHECK.due("signs 1 to 127 alone", source.chars().allMatch(each -> each > 0 && each < 128), true);
        CHECK.end();
    }

    private static void words(String code) {
        List<String> forbidden = List.of("throw", "throws", "try", "catch", "finally", "synchronized", "assert", "package",
                "protected", "native", "volatile", "transient", "var", "Object", "Exception", "equals", "hashCode", "toString");
        for (String word : forbidden) {
            CHECK.due("'" + word + "' stands there", Pattern.compile("\\b" + word + "\\b").matcher(code).find(), false);
        }
        for (String sign : List.of("->", "::", "@")) {
            CHECK.due("'" + sign + "' stands there", code.contains(sign), false);
        }
        Matcher imports = Pattern.compile("import ([\\w.]+);").matcher(code);
        while (imports.find()) {
            CHECK.due("import of " + imports.group(1), imports.group(1).equals("java.util.Arrays"), true);
        }
    }

    private static void library(String code) {
        Set<String> found = new TreeSet<>();
        Matcher calls = Pattern.compile("\\b([A-Z]\\w*\\.[a-z]\\w*)\\(").matcher(code);
        while (calls.find()) {
            found.add(calls.group(1));
        }
        for (String call : found) {
            CHECK.due("the rules list " + call, LIBRARY.contains(call), true);
        }
    }

    private static void methodLengths(String source) {
        int start = 0;
        String[] lines = source.split("\n");
        for (int i = 0; i < lines.length; i++) {
            if (lines[i].matches(" {4,8}[\\w\\[\\] ]+\\(.*\\) \\{")) {
                start = i;
            }
            if (lines[i].matches(" {4,8}\\}") && start > 0) {
                CHECK.due("the method in line " + (start + 1) + " is short", i - start < 60, true);
                start = 0;
            }
        }
    }
}

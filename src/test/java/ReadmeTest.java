import java.io.IOException;
import java.lang.reflect.Method;
import java.lang.reflect.Modifier;
import java.nio.file.Files;
import java.nio.file.Path;
import java.util.Arrays;
import java.util.List;
import java.util.Map;
import java.util.TreeMap;
import java.util.regex.Matcher;
import java.util.regex.Pattern;
import java.util.stream.Stream;

/** README.md keeps to what the class answers; run in the project's folder. */
public final class ReadmeTest {
    private static final Check CHECK = new Check("ReadmeTest");

    public static void main(String[] args) throws IOException {
        String page = Files.readString(Path.of("README.md"));
        example(block(page, "java"));
        faceInTable(page);
        CHECK.due("the text is read", Check.read(new SkyBox(), block(page, "text")), 0);
        testsInTable(page);
        CHECK.end();
    }

    private static String block(String page, String language) {
        Matcher found = Pattern.compile("(?s)```" + language + "\n(.*?)```").matcher(page);
        CHECK.due("there is a block of " + language, found.find(), true);
        return found.group(1);
    }

    /** Each line is a call with its answer behind it. */
    private static void example(String code) {
        SkyBox box = new SkyBox();
        Pattern form = Pattern.compile("box\\.(\\w+)\\((.*)\\); +// (-?\\d+|true|false)\\b.*");
        List<String> lines = code.lines().toList();
        CHECK.due("it begins with a new object", lines.get(0).equals("SkyBox box = new SkyBox();"), true);
        for (String line : lines.subList(1, lines.size())) {
            Matcher call = form.matcher(line);
            boolean formed = call.matches();
            CHECK.due("a call and its answer: " + line, formed, true);
            if (formed) {
                CHECK.due(line, Twin.call(box, call.group(1), numbers(call.group(2))), number(call.group(3)));
            }
        }
    }

    private static int[] numbers(String list) {
        return Arrays.stream(list.split(", ")).mapToInt(ReadmeTest::number).toArray();
    }

    private static int number(String word) {
        return word.equals("true") ? 1 : word.equals("false") ? 0 : Integer.parseInt(word);
    }

    /** A row for each call of the face, with as many parameters, and no row beside. */
    private static void faceInTable(String page) {
        Map<String, Integer> rows = new TreeMap<>();
        Matcher row = Pattern.compile("(?m)^\\| `(\\w+)\\((.*?)\\)` \\|").matcher(page);
        while (row.find()) {
            rows.put(row.group(1), row.group(2).isEmpty() ? 0 : row.group(2).split(", ").length);
        }
        Map<String, Integer> face = new TreeMap<>();
        for (Method method : SkyBox.class.getDeclaredMethods()) {
            if (Modifier.isPublic(method.getModifiers())) {
                face.put(method.getName(), method.getParameterCount());
            }
        }
        CHECK.due("the calls are " + face + ", the rows " + rows, rows.equals(face), true);
    }

    private static void testsInTable(String page) throws IOException {
        try (Stream<Path> files = Files.list(Path.of("src/test/java"))) {
            for (Path file : files.filter(each -> each.toString().endsWith("Test.java")).toList()) {
                String name = file.getFileName().toString().replace(".java", "");
                boolean told = Pattern.compile("(?m)^\\|[^|]*\\b" + name + "\\b[^|]*\\|").matcher(page).find();
                CHECK.due("a row tells of " + name, told, true);
            }
        }
    }
}

import java.io.IOException;
import java.lang.reflect.Modifier;
import java.nio.file.Files;
import java.nio.file.Path;
import java.util.Arrays;
import java.util.regex.Matcher;
import java.util.regex.Pattern;

/** README.md names each call of the face, as the document does, and what its example says is so. */
public final class ReadmeTest {
    public static void main(String[] args) throws IOException {
        String text = Files.readString(Path.of("README.md"));
        calls(text, Files.readString(Path.of("../shared/DOC.md")));
        example(text.substring(text.indexOf("```java"), text.indexOf("Places are")));
        Checks.dueTrue("how to run the tests", text.contains("`.ci/run`"));
        Checks.end("ReadmeTest");
    }

    private static void calls(String text, String document) {
        Matcher face = Pattern.compile("\n    public (?:int|long) (\\w+\\([^)]*\\));").matcher(document);
        int many = 0;
        while (face.find()) {
            many++;
            String call = face.group(1).replace("int ", "");
            Checks.dueTrue("README.md names " + call, text.contains("`" + call + "`"));
        }
        long methods = Arrays.stream(QuestionRoad.class.getDeclaredMethods())
            .filter(m -> Modifier.isPublic(m.getModifiers())).count();
        Checks.due("calls", many, methods);
    }

    private static void example(String text) {
        QuestionRoad x = new QuestionRoad();
        Matcher typed = Pattern.compile("\"(.*)\"\\.toCharArray\\(\\)\\) x\\.type\\((\\d), b\\)").matcher(text);
        while (typed.find()) {
            Checks.put(x, Integer.parseInt(typed.group(2)), typed.group(1));
        }
        Matcher call = Pattern.compile("\nx\\.(\\w+)\\(([\\d, ]*)\\); +// (-?\\d+)").matcher(text);
        int many = 0;
        while (call.find()) {
            many++;
            int[] numbers = Arrays.stream(call.group(2).split(", ")).mapToInt(Integer::parseInt).toArray();
            Face.due(x, Long.parseLong(call.group(3)), call.group(1), numbers);
        }
        Checks.due("lines of the example", many, text.split("\nx\\.").length - 1);
    }
}

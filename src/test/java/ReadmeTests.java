import java.io.IOException;
import java.lang.reflect.Field;
import java.lang.reflect.Method;
import java.lang.reflect.Modifier;
import java.nio.file.Files;
import java.nio.file.Path;
import java.util.regex.Matcher;
import java.util.regex.Pattern;

/** What README.md says of the class: its example's answers, every call, every constant by its number. */
public final class ReadmeTests {
    private static final Pattern TEXT = Pattern.compile("String text = \"([^\"]*)\";");
    private static final Pattern ANSWER = Pattern.compile("day\\.(\\w+)\\(([-0-9, ]*)\\);\\s*// (-?\\d+)");

    private static void testExample(String readme) {
        Calls.about("README.md, How to make an object");
        Matcher text = TEXT.matcher(readme);
        Calls.need(text.find(), "the example has a text");
        Calls day = Calls.fresh().write(text.group(1));
        Matcher answer = ANSWER.matcher(readme);
        int answers = 0;
        while (answer.find()) {
            day.run(answer.group(1) + " " + answer.group(2).replace(",", " ").trim() + ": " + answer.group(3));
            answers++;
        }
        Calls.need(answers > 5, "the example has answers: " + answers);
    }

    private static void testCalls(String readme) {
        Calls.about("README.md, What its calls are for");
        for (Method method : OstlerHours.class.getDeclaredMethods()) {
            if (Modifier.isPublic(method.getModifiers())) {
                Calls.need(readme.contains("`" + method.getName() + "`"), "tells what it is for: " + method.getName());
            }
        }
    }

    private static void testConstants(String readme) throws IllegalAccessException {
        Calls.about("README.md, What refusals look like");
        for (Field field : OstlerHours.class.getDeclaredFields()) {
            if (Modifier.isPublic(field.getModifiers())) {
                String row = "`" + field.getName() + "`(,| \\|) " + field.getInt(null) + "\\b";
                Calls.need(Pattern.compile(row).matcher(readme).find(), "tells its number: " + field.getName());
            }
        }
    }

    public static void main(String[] args) throws IOException, IllegalAccessException {
        String readme = Files.readString(Path.of("README.md"));
        testExample(readme);
        testCalls(readme);
        testConstants(readme);
        Calls.end("README.md");
    }
}

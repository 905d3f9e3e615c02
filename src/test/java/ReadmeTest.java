import java.io.IOException;
import java.lang.reflect.Method;
import java.lang.reflect.Modifier;
import java.nio.file.Files;
import java.nio.file.Path;
import java.util.regex.Matcher;
import java.util.regex.Pattern;

/** README.md: its example answers as its comments say, and each call of the face is told. */
public final class ReadmeTest {
    private static final Pattern EXAMPLE = Pattern.compile("```java\n(.*?)```", Pattern.DOTALL);
    private static final Pattern CALL = Pattern.compile("reader\\.(\\w+)\\(([^)]*)\\)(.*)");
    private static final Pattern ANSWER = Pattern.compile(";\\s*// (-?\\d+)(:.*)?");

    public static void main(String[] args) throws IOException, ReflectiveOperationException {
        String readme = Files.readString(Path.of("README.md"));
        Matcher example = EXAMPLE.matcher(readme);
        Check.dueThat("README.md has an example", example.find());
        Check.due("answers told in the example", answersDue(example.group(1)), 8);
        for (Method m : SignReader.class.getDeclaredMethods()) {
            if (Modifier.isPublic(m.getModifiers())) {
                String told = "| `" + m.getName() + "(";
                Check.dueThat("README.md tells of " + m.getName(), readme.contains(told));
            }
        }
        Check.finish();
    }

    /** Makes the example's calls, in their order, and answers of how many the answer is told. */
    private static int answersDue(String example) throws ReflectiveOperationException {
        SignReader reader = new SignReader();
        Matcher call = CALL.matcher(example);
        int told = 0;
        while (call.find()) {
            Object answered = call(reader, call.group(1), call.group(2));
            Matcher answer = ANSWER.matcher(call.group(3));
            if (answer.matches()) {
                Check.due(call.group(), (Integer) answered, Integer.parseInt(answer.group(1)));
                told++;
            } else if (call.group(3).startsWith(" == SignReader.NONE")) {
                Check.due(call.group(), (Integer) answered, SignReader.NONE);
                told++;
            }
        }
        return told;
    }

    private static Object call(SignReader reader, String name, String written)
            throws ReflectiveOperationException {
        String[] words = written.isEmpty() ? new String[0] : written.split(", ");
        Class<?>[] types = new Class<?>[words.length];
        Object[] numbers = new Object[words.length];
        for (int k = 0; k < words.length; k++) {
            types[k] = int.class;
            numbers[k] = number(words[k]);
        }
        return SignReader.class.getMethod(name, types).invoke(reader, numbers);
    }

    private static int number(String word) {
        return word.startsWith("'") ? word.charAt(1) : Long.decode(word).intValue();
    }
}

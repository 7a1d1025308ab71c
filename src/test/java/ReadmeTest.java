import java.io.IOException;
import java.lang.reflect.Method;
import java.nio.charset.StandardCharsets;
import java.nio.file.Files;
import java.nio.file.Path;
import java.util.regex.Matcher;
import java.util.regex.Pattern;

/**
 * The examples of README.md: every line there that calls the school and tells the answer behind two
 * slashes is called here, in order, on one object. Run it where README.md stands.
 */
public final class ReadmeTest {
    private static final Pattern CALL = Pattern.compile("(?:int child = )?school\\.(\\w+)\\((.*)\\); +// (-?\\w+).*");
    private static final Pattern TELL = Pattern.compile("tell\\(school, \"(.*)\"\\); +// (-?\\w+).*");

    private static final BlueCoats SCHOOL = new BlueCoats();

    public static void main(String[] args) throws IOException, ReflectiveOperationException {
        int calls = 0;
        for (String line : Files.readAllLines(Path.of("README.md"), StandardCharsets.UTF_8)) {
            Matcher call = CALL.matcher(line);
            Matcher tell = TELL.matcher(line);
            if (call.matches()) {
                Check.same(line, call.group(3), answer(call.group(1), call.group(2)));
                calls++;
            } else if (tell.matches()) {
                Check.same(line, tell.group(2), String.valueOf(tell(SCHOOL, tell.group(1).replace("\\n", "\n"))));
                calls++;
            }
        }
        Check.due("lines with an answer", 20, calls);
        everyCallIsNamed();
        Check.end();
    }

    /** As README.md has it. */
    static int tell(BlueCoats school, String text) {
        byte[] bytes = java.util.Arrays.copyOf(text.getBytes(), (text.length() + 19) / 20 * 20);
        java.nio.ByteBuffer tape = java.nio.ByteBuffer.wrap(bytes);
        while (tape.hasRemaining()) {
            school.feed(tape.getInt(), tape.getInt(), tape.getInt(), tape.getInt(), tape.getInt());
        }
        return school.statutes(text.length());
    }

    private static String answer(String name, String written) throws ReflectiveOperationException {
        String[] words = written.isEmpty() ? new String[0] : written.split(", ");
        Object[] numbers = new Object[words.length];
        for (int i = 0; i < words.length; i++) {
            numbers[i] = number(words[i]);
        }
        return String.valueOf(method(name).invoke(SCHOOL, numbers));
    }

    private static int number(String word) {
        if (word.equals("child")) {
            return 0;
        }
        return word.startsWith("0b") ? Integer.parseInt(word.substring(2), 2) : Integer.parseInt(word);
    }

    private static Method method(String name) throws NoSuchMethodException {
        for (Method method : BlueCoats.class.getDeclaredMethods()) {
            if (method.getName().equals(name)) {
                return method;
            }
        }
        throw new NoSuchMethodException(name);
    }

    /** README.md has a row for each call of the face. */
    private static void everyCallIsNamed() throws IOException {
        String page = Files.readString(Path.of("README.md"), StandardCharsets.UTF_8);
        for (Method method : BlueCoats.class.getMethods()) {
            if (method.getDeclaringClass() == BlueCoats.class) {
                Check.due("README.md names " + method.getName(), true, page.contains("| `" + method.getName() + "("));
            }
        }
    }
}

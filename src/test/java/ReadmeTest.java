import java.io.IOException;
import java.lang.reflect.Method;
import java.nio.file.Files;
import java.nio.file.Path;
import java.util.regex.Matcher;
import java.util.regex.Pattern;

/** The run of calls in README.md: each is made, and answers what stands behind it. */
public final class ReadmeTest {
    private static final Pattern LINE = Pattern.compile("desk\\.(\\w+)\\((.*)\\); +// ([\\w-]+)( \\+ BASE)?(:.*)?");

    public static void main(String[] args) throws ReflectiveOperationException, IOException {
        SessionDesk desk = new SessionDesk();
        int calls = 0;
        for (String line : Files.readAllLines(Path.of("README.md"))) {
            Matcher call = LINE.matcher(line);
            if (call.matches()) {
                calls++;
                String due = due(call.group(3), call.group(4) != null);
                Due.text("README.md: " + line, due, answer(desk, call.group(1), call.group(2)));
            } else {
                Due.text("README.md: a call without its answer", "", line.startsWith("desk.") ? line : "");
            }
        }
        Due.text("README.md has a run of calls", "true", "" + (calls > 0));
        Due.end();
    }

    private static String due(String word, boolean isLong) throws ReflectiveOperationException {
        if (!word.matches("[A-Z]+")) {
            return word;
        }
        long error = SessionDesk.class.getField(word).getInt(null);
        return "" + (isLong ? error + SessionDesk.BASE : error);
    }

    private static String answer(SessionDesk desk, String name, String told) throws ReflectiveOperationException {
        String[] words = told.split(", *");
        Object[] values = new Object[words.length];
        for (int n = 0; n < words.length; n++) {
            boolean isNumber = words[n].matches("-?\\d+");
            values[n] = isNumber ? (Object) Integer.valueOf(words[n]) : (Object) Boolean.valueOf(words[n]);
        }
        for (Method method : SessionDesk.class.getMethods()) {
            if (method.getName().equals(name) && method.getParameterCount() == values.length) {
                return "" + method.invoke(desk, values);
            }
        }
        return "there is no such method";
    }
}

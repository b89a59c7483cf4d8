import java.io.IOException;
import java.lang.reflect.Method;
import java.nio.file.Files;
import java.nio.file.Path;
import java.util.Arrays;
import java.util.regex.Matcher;
import java.util.regex.Pattern;

/** Each call in README.md answers what stands behind it. */
public final class ReadmeTest {
    private static final Pattern CALL = Pattern.compile("chat\\.(\\w+)\\((.*)\\); +// (-?\\d+).*");

    public static void main(String[] args) throws IOException, ReflectiveOperationException {
        ChatThreads chat = new ChatThreads();
        int calls = 0;
        int wrong = 0;
        for (String line : Files.readAllLines(Path.of("README.md"))) {
            Matcher call = CALL.matcher(line);
            boolean isCall = call.matches();
            calls += isCall ? 1 : 0;
            if (isCall ? answer(chat, call) != Integer.parseInt(call.group(3)) : line.startsWith("chat.")) {
                System.out.println("not so: " + line);
                wrong++;
            }
        }
        System.out.println("README.md: " + calls + " calls, " + wrong + " wrong answers");
        if (wrong != 0 || calls == 0) {
            System.exit(1);
        }
    }

    private static int answer(ChatThreads chat, Matcher call) throws ReflectiveOperationException {
        Object[] numbers = Arrays.stream(call.group(2).split(", "))
            .filter(text -> !text.isEmpty()).map(ReadmeTest::number).toArray();
        Class<?>[] types = new Class<?>[numbers.length];
        Arrays.fill(types, int.class);
        Method method = ChatThreads.class.getMethod(call.group(1), types);
        return (int) method.invoke(chat, numbers);
    }

    private static Object number(String text) {
        return text.startsWith("'") ? (int) text.charAt(1) : Integer.parseInt(text);
    }
}

import java.lang.reflect.Method;
import java.lang.reflect.Modifier;
import java.nio.file.Files;
import java.nio.file.Path;
import java.util.Arrays;
import java.util.regex.Matcher;
import java.util.regex.Pattern;

/** README.md holds: each answer that its example tells is given, and every call is named. */
public final class WeirWordsReadme {
    private static final Pattern TEXT = Pattern.compile("String text = \"([^\"]*)\";");
    private static final Pattern CALL = Pattern.compile("(?m)^x\\.(\\w+)\\(([-0-9, ]*)\\); +// (-?\\d+)");
    private static int passed = 0;
    private static int failed = 0;

    private static void check(boolean good, String what) {
        if (good) {
            passed++;
        } else {
            failed++;
            System.out.println("README.md: " + what);
        }
    }

    public static void main(String[] args) throws Exception {
        String page = Files.readString(Path.of(args[0]));
        example(page);
        for (Method m : WeirWords.class.getDeclaredMethods()) {
            if (Modifier.isPublic(m.getModifiers())) {
                check(page.contains("`" + m.getName() + "`"), "does not name " + m.getName());
            }
        }
        System.out.println(passed + " passed, " + failed + " failed");
        if (failed != 0) System.exit(1);
    }

    private static void example(String page) throws Exception {
        WeirWords x = new WeirWords();
        Matcher text = TEXT.matcher(page);
        check(text.find(), "has no text of a river");
        for (char c : text.group(1).toCharArray()) x.feed(c);
        Matcher call = CALL.matcher(page);
        int calls = 0;
        while (call.find()) {
            calls++;
            Object answer = called(x, call.group(1), call.group(2));
            check(answer.equals(Integer.valueOf(call.group(3))), call.group() + " is told, the answer is " + answer);
        }
        check(calls >= 10, "tells the answers of " + calls + " calls");
    }

    private static Object called(WeirWords x, String name, String numbers) throws Exception {
        Object[] given = numbers.isEmpty() ? new Object[0]
            : Arrays.stream(numbers.split(", *")).map(Integer::valueOf).toArray();
        Class<?>[] types = new Class<?>[given.length];
        Arrays.fill(types, int.class);
        return WeirWords.class.getMethod(name, types).invoke(x, given);
    }
}

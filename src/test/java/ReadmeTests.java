import java.lang.reflect.Method;
import java.lang.reflect.Modifier;
import java.nio.file.Files;
import java.nio.file.Path;
import java.util.regex.Matcher;
import java.util.regex.Pattern;

/** The example of README.md answers as is written there, and README.md names every call. */
public final class ReadmeTests {
    private static final Pattern PAGE = Pattern.compile("\"([^\"]+)\"\\.toCharArray\\(\\)\\) x\\.letter\\(c\\);");
    private static final Pattern CALL = Pattern.compile("x\\.(\\w+)\\(([-\\d, ]*)\\);\\s*// (-?\\d+):");

    private static final Check check = new Check();

    public static void main(String[] args) throws Exception {
        String text = Files.readString(Path.of("README.md"));
        example(text.substring(text.indexOf("```java"), text.lastIndexOf("```")));
        for (Method m : TrailBreakers.class.getDeclaredMethods()) {
            if (Modifier.isPublic(m.getModifiers())) check.holds("README.md names " + m, text.contains("`" + m.getName() + "("));
        }
        check.end("ReadmeTests");
    }

    private static void example(String code) throws Exception {
        Matcher page = PAGE.matcher(code);
        check.holds("the example writes a slope", page.find());
        TrailBreakers x = Check.page(page.group(1));
        Matcher call = CALL.matcher(code);
        int calls = 0;
        while (call.find()) {
            calls++;
            check.due(call.group(), answer(x, call.group(1), call.group(2)), Long.parseLong(call.group(3)));
        }
        check.due("calls of the example with an answer", calls, code.lines().filter(line -> line.startsWith("x.")).count());
    }

    private static long answer(TrailBreakers x, String name, String numbers) throws Exception {
        String[] texts = numbers.isBlank() ? new String[0] : numbers.split(", *");
        Object[] arguments = new Object[texts.length];
        Class<?>[] types = new Class<?>[texts.length];
        for (int i = 0; i < texts.length; i++) {
            arguments[i] = Integer.parseInt(texts[i]);
            types[i] = int.class;
        }
        return ((Number) TrailBreakers.class.getMethod(name, types).invoke(x, arguments)).longValue();
    }
}

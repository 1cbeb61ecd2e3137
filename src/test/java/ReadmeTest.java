import java.io.File;
import java.io.IOException;
import java.lang.reflect.Method;
import java.lang.reflect.Modifier;
import java.nio.charset.StandardCharsets;
import java.nio.file.Files;
import java.nio.file.Path;
import java.util.ArrayList;
import java.util.List;
import java.util.regex.Matcher;
import java.util.regex.Pattern;

/** README.md's example answers what it says there, and the page names each call and each test. */
public final class ReadmeTest {
    private static int wrong = 0;

    public static void main(String[] args) throws IOException, ReflectiveOperationException {
        String page = Files.readString(Path.of("README.md"));
        example(page);
        calls(page);
        tests(page);
        System.out.println(wrong == 0 ? "README.md is as it should be" : wrong + " things are not so in README.md");
        if (wrong != 0) {
            System.exit(1);
        }
    }

    private static void due(boolean so, String what) {
        if (!so) {
            wrong++;
            System.out.println("not so: " + what);
        }
    }

    private static void example(String page) throws ReflectiveOperationException {
        Matcher block = Pattern.compile("(?s)```java\n(.*?)```").matcher(page);
        if (!block.find()) {
            due(false, "there is an example");
            return;
        }
        SleeveSlips x = new SleeveSlips();
        Matcher text = Pattern.compile("\"([^\"]*)\"\\.getBytes").matcher(block.group(1));
        due(text.find(), "the example types a text");
        for (byte b : text.group(1).getBytes(StandardCharsets.ISO_8859_1)) {
            x.type(b, 1);
        }
        int seen = 0;
        Matcher call = Pattern.compile("(?m)^x\\.(\\w+)\\(([^)]*)\\); *// (-?\\d+): ").matcher(block.group(1));
        while (call.find()) {
            seen++;
            long got = answer(x, call.group(1), call.group(2));
            due(got == Long.parseLong(call.group(3)), call.group() + "it answers " + got);
        }
        long lines = block.group(1).lines().filter(row -> row.startsWith("x.")).count();
        due(seen > 0 && seen == lines, "each call of the example tells its answer");
    }

    private static long answer(SleeveSlips x, String name, String list) throws ReflectiveOperationException {
        List<Object> numbers = new ArrayList<>();
        for (String number : list.isEmpty() ? new String[0] : list.split(", ")) {
            numbers.add(Integer.parseInt(number));
        }
        for (Method m : SleeveSlips.class.getMethods()) {
            if (m.getName().equals(name) && m.getParameterCount() == numbers.size()) {
                return ((Number) m.invoke(x, numbers.toArray())).longValue();
            }
        }
        due(false, name + " is a call with " + numbers.size() + " numbers");
        return Long.MIN_VALUE;
    }

    private static void calls(String page) {
        for (Method m : SleeveSlips.class.getDeclaredMethods()) {
            if (!Modifier.isPublic(m.getModifiers())) {
                continue;
            }
            Matcher named = Pattern.compile("`" + m.getName() + "\\(([^)]*)\\)`").matcher(page);
            boolean found = named.find();
            due(found, "the page names " + m.getName());
            int parameters = !found || named.group(1).isEmpty() ? 0 : named.group(1).split(",").length;
            due(!found || parameters == m.getParameterCount(), "the page has the parameters of " + m.getName());
        }
    }

    private static void tests(String page) {
        File[] files = new File("src/test/java").listFiles();
        due(files != null && files.length > 0, "there are tests");
        for (File f : files == null ? new File[0] : files) {
            due(page.contains("- `" + f.getName().replace(".java", "") + "`: "), "the page names " + f.getName());
        }
    }
}

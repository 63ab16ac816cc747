import java.lang.reflect.Method;
import java.nio.charset.StandardCharsets;
import java.nio.file.Files;
import java.nio.file.Path;
import java.util.HashSet;
import java.util.Set;
import java.util.regex.Matcher;
import java.util.regex.Pattern;

/** README.md's examples answer what they say, and README.md names every call and every test. */
public final class ReadmeTest {
    private static final Pattern NEW = Pattern.compile("RodBeads x = new RodBeads\\(\\);");
    private static final Pattern WRITE = Pattern.compile("for \\(char c : \"([^\"]*)\"\\.toCharArray\\(\\)\\) x\\.write\\(c\\);");
    private static final Pattern CALL = Pattern.compile("x\\.(\\w+)\\(([-0-9, ]*)\\);\\s*// (-?\\d+)(: .*)?");
    private static int wrong = 0;
    private static int calls = 0;

    private static void due(String what, boolean holds) {
        if (!holds) {
            wrong++;
            System.out.println("README.md: " + what);
        }
    }

    private static long answer(RodBeads x, String name, String args) throws ReflectiveOperationException {
        String[] told = args.isEmpty() ? new String[0] : args.split(", ");
        Class<?>[] types = new Class<?>[told.length];
        Object[] values = new Object[told.length];
        for (int i = 0; i < told.length; i++) {
            types[i] = int.class;
            values[i] = Integer.parseInt(told[i]);
        }
        return ((Number) RodBeads.class.getMethod(name, types).invoke(x, values)).longValue();
    }

    private static void examples(String readme) throws ReflectiveOperationException {
        Matcher blocks = Pattern.compile("(?s)```java\n(.*?)```").matcher(readme);
        while (blocks.find()) {
            RodBeads x = null;
            for (String line : blocks.group(1).split("\n")) {
                Matcher write = WRITE.matcher(line);
                Matcher call = CALL.matcher(line);
                if (NEW.matcher(line).matches()) {
                    x = new RodBeads();
                } else if (write.matches()) {
                    for (char c : write.group(1).toCharArray()) {
                        x.write(c);
                    }
                } else if (call.matches()) {
                    long got = answer(x, call.group(1), call.group(2));
                    calls++;
                    due(line + " answered " + got, got == Long.parseLong(call.group(3)));
                } else {
                    due("cannot read " + line, false);
                }
            }
        }
        due("there are examples", calls > 0);
    }

    private static void names(String readme) {
        Set<String> named = new HashSet<>();
        Matcher words = Pattern.compile("`(\\w+)`").matcher(readme);
        while (words.find()) {
            named.add(words.group(1));
        }
        for (Method m : RodBeads.class.getDeclaredMethods()) {
            if (java.lang.reflect.Modifier.isPublic(m.getModifiers())) {
                due("names " + m.getName(), named.contains(m.getName()));
            }
        }
        for (String test : new java.io.File("src/test/java").list()) {
            due("names " + test, readme.contains("`src/test/java/" + test + "`"));
        }
    }

    public static void main(String[] args) throws Exception {
        String readme = Files.readString(Path.of("README.md"), StandardCharsets.UTF_8);
        examples(readme);
        names(readme);
        System.out.println(calls + " answers of README.md, " + wrong + " things not so");
        if (wrong != 0) {
            System.exit(1);
        }
    }
}

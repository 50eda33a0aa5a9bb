import java.io.IOException;
import java.lang.reflect.Method;
import java.nio.file.Files;
import java.nio.file.Path;
import java.util.Arrays;
import java.util.HashSet;
import java.util.Set;
import java.util.regex.Matcher;
import java.util.regex.Pattern;

/** The example of README.md answers what stands there, and the README names every call. */
public final class ReadmeTest {
    private static final Pattern CALL = Pattern.compile("works\\.(\\w+)\\(([-0-9, ]*)\\);\\s*// (-?\\d+).*");
    private static final Pattern SAY = Pattern.compile("for \\(char sign : \"(.*)\"\\.toCharArray\\(\\)\\) works\\.say\\(sign\\);");
    private static final String MADE = "WorkedBack works = new WorkedBack();";

    private static int wrong;
    private static int held;

    private static void fail(String what) {
        wrong++;
        System.out.println(what);
    }

    private static int call(WorkedBack works, String name, String told) throws ReflectiveOperationException {
        int[] args = told.isBlank() ? new int[0] : Arrays.stream(told.split(",")).map(String::trim)
                .mapToInt(Integer::parseInt).toArray();
        for (Method m : WorkedBack.class.getMethods()) {
            if (m.getName().equals(name) && m.getParameterCount() == args.length) {
                return (Integer) m.invoke(works, Arrays.stream(args).boxed().toArray());
            }
        }
        throw new NoSuchMethodException(name + " with " + args.length);
    }

    private static void line(WorkedBack works, String line) throws ReflectiveOperationException {
        Matcher say = SAY.matcher(line);
        Matcher asked = CALL.matcher(line);
        if (say.matches()) {
            for (char sign : say.group(1).toCharArray()) works.say(sign);
        } else if (asked.matches()) {
            int got = call(works, asked.group(1), asked.group(2));
            held++;
            if (got != Integer.parseInt(asked.group(3))) fail("README.md says '" + line + "', it answered " + got);
        } else if (!line.equals(MADE)) {
            fail("README.md has a line that nobody can run: " + line);
        }
    }

    public static void main(String[] args) throws IOException, ReflectiveOperationException {
        String text = Files.readString(Path.of("README.md"));
        int from = text.indexOf("```java\n") + 8;
        int till = text.indexOf("```", from);
        WorkedBack works = new WorkedBack();
        for (String line : text.substring(from, till).split("\n")) line(works, line);
        Set<String> names = new HashSet<>(Arrays.asList(text.split("\\W+")));
        for (Method m : WorkedBack.class.getDeclaredMethods()) {
            boolean open = java.lang.reflect.Modifier.isPublic(m.getModifiers());
            if (open && !names.contains(m.getName())) fail("README.md does not name " + m.getName());
        }
        System.out.println(held + " answers of README.md held, " + wrong + " wrong");
        if (wrong != 0 || held < 20) System.exit(1);
    }
}

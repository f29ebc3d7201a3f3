import java.io.IOException;
import java.lang.reflect.Method;
import java.nio.file.Files;
import java.nio.file.Path;
import java.util.List;
import java.util.Set;
import java.util.TreeSet;
import java.util.regex.Matcher;
import java.util.regex.Pattern;

/** Makes each call of the examples in README.md and looks whether it answers what stands behind it. */
public final class ReadmeExamples {
    private static final Pattern NEW = Pattern.compile("WorldProver x = new WorldProver\\(\\);");
    private static final Pattern CALL = Pattern.compile("x\\.(\\w+)\\(([^)]*)\\); +// (-?\\d+): .*");
    private static final Set<String> called = new TreeSet<>();
    private static int asked = 0;
    private static int wrong = 0;

    public static void main(String[] args) throws IOException, ReflectiveOperationException {
        String readme = Files.readString(Path.of(args[0]));
        boolean inExample = false;
        WorldProver x = null;
        for (String line : readme.split("\n")) {
            if (line.startsWith("```")) {
                inExample = line.equals("```java");
                x = null;
            } else if (inExample && NEW.matcher(line).matches()) {
                x = new WorldProver();
            } else if (inExample) {
                ask(x, line);
            }
        }
        every(readme);
        System.out.println("examples: " + (asked - wrong) + " as due, " + wrong + " not");
        if (wrong != 0 || asked == 0) System.exit(1);
    }

    private static void tell(String what) {
        wrong++;
        System.out.println("README.md: " + what);
    }

    private static void ask(WorldProver x, String line) throws ReflectiveOperationException {
        asked++;
        Matcher m = CALL.matcher(line);
        if (x == null || !m.matches()) {
            tell("no call of an example: " + line);
            return;
        }
        Object got = answer(x, m.group(1), m.group(2).isEmpty() ? new String[0] : m.group(2).split(", "));
        if (!m.group(3).equals("" + got)) tell(line + " answered " + got);
    }

    private static Object answer(WorldProver x, String name, String[] words) throws ReflectiveOperationException {
        for (Method method : WorldProver.class.getDeclaredMethods()) {
            if (!method.getName().equals(name) || method.getParameterCount() != words.length) continue;
            Object[] values = new Object[words.length];
            for (int i = 0; i < words.length; i++) {
                boolean isLong = method.getParameterTypes()[i] == long.class;
                values[i] = isLong ? (Object) Long.decode(words[i].replace("L", "")) : (Object) Integer.decode(words[i]);
            }
            called.add(name);
            return method.invoke(x, values);
        }
        return "nothing: there is no such call";
    }

    /** README.md tells of every call of the face, and the examples make the most of them. */
    private static void every(String readme) {
        for (Method method : WorldProver.class.getDeclaredMethods()) {
            boolean isPublic = java.lang.reflect.Modifier.isPublic(method.getModifiers());
            if (isPublic && !readme.contains("`" + method.getName() + "(")) tell("nothing is told of " + method.getName());
        }
        for (String name : List.of("feed", "read", "prove", "proof", "check", "refute", "holds")) {
            if (!called.contains(name)) tell("no example calls " + name);
        }
    }
}

import java.lang.reflect.Method;
import java.lang.reflect.Modifier;
import java.nio.file.Files;
import java.nio.file.Path;
import java.util.ArrayList;
import java.util.List;
import java.util.regex.Matcher;
import java.util.regex.Pattern;

/** README.md's examples, line by line: each call answers what stands behind it; and it names every call. */
public final class ReadmeTests extends Checks {
    private static final String NEW = "StillInAugust x = new StillInAugust();";
    private static final Pattern BLOCK = Pattern.compile("(?s)```java\n(.*?)```");
    private static final Pattern SAY = Pattern.compile("say\\(x, \"([^\"]*)\"\\);");
    private static final Pattern CALL = Pattern.compile("x\\.(\\w+)\\((.*?)\\);\\s*// (-?\\d+).*");

    private static List<Method> face() {
        List<Method> all = new ArrayList<>();
        for (Method m : StillInAugust.class.getDeclaredMethods()) {
            if (Modifier.isPublic(m.getModifiers())) {
                all.add(m);
            }
        }
        return all;
    }

    private static Object argument(Class<?> type, String told) {
        if (type == boolean.class) {
            return Boolean.valueOf(told);
        }
        return type == long.class ? (Object) Long.valueOf(told) : (Object) Integer.valueOf(told);
    }

    private static long answer(StillInAugust x, String name, String told) throws Exception {
        String[] words = told.isEmpty() ? new String[0] : told.split(", ");
        for (Method m : face()) {
            if (m.getName().equals(name) && m.getParameterCount() == words.length) {
                Object[] arguments = new Object[words.length];
                for (int i = 0; i < words.length; i++) {
                    arguments[i] = argument(m.getParameterTypes()[i], words[i]);
                }
                return ((Number) m.invoke(x, arguments)).longValue();
            }
        }
        throw new IllegalArgumentException("no call " + name + "(" + told + ")");
    }

    private static void example(String block) throws Exception {
        StillInAugust x = new StillInAugust();
        for (String line : block.substring(NEW.length()).split("\n")) {
            Matcher say = SAY.matcher(line);
            Matcher call = CALL.matcher(line);
            if (say.matches()) {
                text(x, say.group(1));
            } else if (call.matches()) {
                due(line, answer(x, call.group(1), call.group(2)), Long.parseLong(call.group(3)));
            } else {
                holds("this line is a call with its answer: " + line, line.isEmpty());
            }
        }
    }

    public static void main(String[] args) throws Exception {
        says("README.md", "how to use the class and how to run its tests");
        String page = Files.readString(Path.of("README.md"));
        int examples = 0;
        Matcher blocks = BLOCK.matcher(page);
        while (blocks.find()) {
            if (blocks.group(1).startsWith(NEW)) {
                examples++;
                example(blocks.group(1));
            }
        }
        due("examples", examples, 2);
        for (Method m : face()) {
            holds(m.getName() + " is named", page.contains("`" + m.getName() + "`"));
        }
        holds("it says how to run the tests", page.contains("\n    .ci/run\n"));
        end();
    }
}

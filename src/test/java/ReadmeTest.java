import java.io.File;
import java.io.IOException;
import java.lang.reflect.Field;
import java.lang.reflect.Method;
import java.lang.reflect.Modifier;
import java.nio.file.Files;
import java.nio.file.Path;
import java.util.HashMap;
import java.util.Map;
import java.util.Set;
import java.util.TreeSet;
import java.util.regex.Matcher;
import java.util.regex.Pattern;

/** README.md: what its example tells is what is answered, and it names every call, constant and test. */
public final class ReadmeTest {
    private static final Pattern CALL =
            Pattern.compile("(?:(?:int|float) (\\w+) = )?field\\.(\\w+)\\((.*)\\); +// (-?[0-9.]+f?): \\S.*");

    private static final Checks c = new Checks();
    private static final Map<String, Object> values = new HashMap<>();

    public static void main(String[] args) throws IOException, ReflectiveOperationException {
        String readme = Files.readString(Path.of("README.md"));
        example(readme);
        names(readme);
        c.end("ReadmeTest");
    }

    private static void example(String readme) throws ReflectiveOperationException {
        int start = readme.indexOf("```java\n") + "```java\n".length();
        String[] lines = readme.substring(start, readme.indexOf("```", start)).split("\n");
        c.dueText("the first line", lines[0], "TentFields field = new TentFields();");
        TentFields field = new TentFields();
        Set<String> called = new TreeSet<>();
        for (int line = 1; line < lines.length; line++) {
            Matcher call = CALL.matcher(lines[line]);
            c.holds("a call and its answer: " + lines[line], call.matches());
            if (call.matches()) {
                Object answer = answerOf(field, call.group(2), call.group(3));
                values.put(String.valueOf(call.group(1)), answer);
                c.dueText(lines[line], answer instanceof Float ? answer + "f" : answer + "", call.group(4));
                called.add(call.group(2));
            }
        }
        c.holds("most of the calls are shown: " + called, called.size() >= 15);
    }

    private static Object answerOf(TentFields field, String name, String list) throws ReflectiveOperationException {
        String[] parts = list.isEmpty() ? new String[0] : list.startsWith("'") ? new String[] {list} : list.split(", ");
        Object[] arguments = new Object[parts.length];
        for (int index = 0; index < parts.length; index++) {
            String part = parts[index];
            if (part.startsWith("'")) {
                arguments[index] = part.charAt(1);
            } else {
                arguments[index] = values.containsKey(part) ? values.get(part) : (Object) Integer.valueOf(part);
            }
        }
        return methodOf(name).invoke(field, arguments);
    }

    private static Method methodOf(String name) {
        for (Method method : TentFields.class.getMethods()) {
            if (method.getName().equals(name) && method.getDeclaringClass() == TentFields.class) {
                return method;
            }
        }
        throw new IllegalArgumentException("no method " + name);
    }

    private static void names(String readme) throws ReflectiveOperationException {
        String list = readme.substring(readme.indexOf("| Calls |"), readme.indexOf("## Testing it"));
        for (Method method : TentFields.class.getDeclaredMethods()) {
            if (Modifier.isPublic(method.getModifiers())) {
                c.holds("the list names " + method, list.contains("`" + method.getName() + "("));
                Matcher told = Pattern.compile("`" + method.getName() + "\\((.*?)\\)`").matcher(list);
                int many = told.find() && !told.group(1).isEmpty() ? told.group(1).split(",").length : 0;
                c.due("arguments of " + method.getName() + " in the list", many, method.getParameterCount());
            }
        }
        for (Field field : TentFields.class.getFields()) {
            c.holds("README tells " + field, list.contains("`" + field.getName() + "` (" + field.getInt(null) + ")"));
        }
        for (String name : new File("src/test/java").list()) {
            c.holds("README names " + name, readme.contains("`" + name.replace(".java", "") + "`"));
        }
    }
}

import java.io.IOException;
import java.lang.reflect.InvocationTargetException;
import java.lang.reflect.Method;
import java.lang.reflect.Modifier;
import java.nio.file.Files;
import java.nio.file.Path;
import java.util.HashMap;
import java.util.Map;
import java.util.Set;
import java.util.TreeSet;
import java.util.regex.Matcher;
import java.util.regex.Pattern;

/** Each call that README.md shows answers what README.md says behind it, and each call of the face is shown. */
public final class ReadmeTest {
    private static final Pattern NEW = Pattern.compile("NestTables x = new NestTables\\(\\);");
    private static final Pattern CALL = Pattern.compile("(?:(int|double) (\\w+) = )?x\\.(\\w+)\\(([^()]*)\\);\\s*// (-?[\\d.]+)(?:: .+)?");

    private static final Map<String, Integer> names = new HashMap<>();
    private static final Set<String> shown = new TreeSet<>();
    private static NestTables x = null;
    private static int calls = 0;
    private static int wrong = 0;

    public static void main(String[] args) throws IOException, ReflectiveOperationException {
        String text = Files.readString(Path.of(System.getProperty("readme", "README.md")));
        Matcher blocks = Pattern.compile("(?s)```java\n(.*?)```").matcher(text);
        while (blocks.find()) {
            x = null;
            names.clear();
            for (String line : blocks.group(1).split("\n")) {
                runLine(line.trim());
            }
        }
        for (Method method : NestTables.class.getDeclaredMethods()) {
            if (Modifier.isPublic(method.getModifiers()) && !shown.contains(method.getName())) {
                isWrong("no call shows " + method.getName());
            }
        }
        System.out.println(calls + " calls of README.md, " + (wrong == 0 ? "all as due" : wrong + " things are not as due"));
        if (wrong != 0) {
            System.exit(1);
        }
    }

    private static void isWrong(String what) {
        wrong++;
        System.out.println(what);
    }

    private static void runLine(String line) throws ReflectiveOperationException {
        if (line.isEmpty()) {
            return;
        }
        if (NEW.matcher(line).matches()) {
            x = new NestTables();
            return;
        }
        Matcher call = CALL.matcher(line);
        if (!call.matches() || x == null) {
            isWrong("no call with its answer: " + line);
            return;
        }
        runCall(line, call);
    }

    private static void runCall(String line, Matcher call) throws ReflectiveOperationException {
        calls++;
        String[] words = call.group(4).isEmpty() ? new String[0] : call.group(4).split(", ");
        Object[] values = new Object[words.length];
        for (int i = 0; i < words.length; i++) {
            values[i] = valueOf(words[i]);
        }
        Method method = methodWith(call.group(3), words.length);
        if (method == null) {
            isWrong("the class has no such call: " + line);
            return;
        }
        shown.add(method.getName());
        String answer = answerOf(method, values);
        if (!answer.equals(call.group(5))) {
            isWrong("answered " + answer + ": " + line);
        }
        if (call.group(1) != null && !call.group(1).equals(method.getReturnType().getName())) {
            isWrong("the answer is of another type: " + line);
        } else if (call.group(2) != null && method.getReturnType() == int.class) {
            names.put(call.group(2), Integer.parseInt(answer));
        }
    }

    private static String answerOf(Method method, Object[] values) throws ReflectiveOperationException {
        try {
            return String.valueOf(method.invoke(x, values));
        } catch (InvocationTargetException thrown) {
            return "by throwing " + thrown.getCause();
        }
    }

    private static Method methodWith(String name, int parameters) {
        for (Method method : NestTables.class.getDeclaredMethods()) {
            if (Modifier.isPublic(method.getModifiers()) && method.getName().equals(name) && method.getParameterCount() == parameters) {
                return method;
            }
        }
        return null;
    }

    /** A number, a constant of the class, or a name that a line before has given to an answer. */
    private static int valueOf(String word) throws ReflectiveOperationException {
        if (word.startsWith("NestTables.")) {
            return NestTables.class.getField(word.substring("NestTables.".length())).getInt(null);
        }
        if (word.matches("-?\\d+")) {
            return Integer.parseInt(word);
        }
        if (!names.containsKey(word)) {
            isWrong("no line before gives the name " + word);
            return 0;
        }
        return names.get(word);
    }
}

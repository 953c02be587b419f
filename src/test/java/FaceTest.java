import java.io.IOException;
import java.lang.reflect.Constructor;
import java.lang.reflect.Field;
import java.lang.reflect.Method;
import java.lang.reflect.Modifier;
import java.nio.file.Files;
import java.nio.file.Path;
import java.util.ArrayList;
import java.util.Arrays;
import java.util.List;
import java.util.Set;
import java.util.TreeSet;
import java.util.regex.Matcher;
import java.util.regex.Pattern;

/** The class has the document's face and no more, and keeps to what can be seen of the language's rules. */
public final class FaceTest {
    private static final String[] METHODS = {
        "int table(int, int)", "int row(int, int, int)", "int share(int, int, int, int)", "int fall(int, int)",
        "int put(int, int, int, int)", "int get(int, int, int)", "double real(int, int, int)", "int told(int, int, int)",
        "int odd(int)", "int copy(int, int, int, int, int, int, int)", "int turned(int)", "int product(int, int)",
        "int distances(int)", "int pack(int)", "int word(int)", "int alike(int, int)", "int same(int, int, int, int)",
        "int total(int)", "int entered()", "int deep(int)", "int count(int)", "int clear()"};
    private static final String[] CONSTANTS = {"NONE=-1000009", "OUTSIDE=-1000002", "ROOM=-1000004", "STATE=-1000003", "UNKNOWN=-1000001"};
    private static final String[] FORBIDDEN = {"\\btry\\b", "\\bcatch\\b", "\\bfinally\\b", "\\bthrow\\b", "\\bsynchronized\\b",
        "\\bassert\\b", "->", "::", "\\bNaN\\b", "\\bDouble\\b", "\\bObject\\b", "\\bRandom\\b", "\\bSystem\\.(?!arraycopy)",
        "\\bArrays\\.(?!copyOf|copyOfRange|fill)", "\\bMath\\.\\w*Exact", "\\bequals\\b", "\\bhashCode\\b", "\\btoString\\b",
        "\\bstatic\\s*\\{", "\\bgetClass\\b", "\\bpackage\\b", "\\bprotected\\b"};

    private static int wrong = 0;

    public static void main(String[] args) throws IOException, IllegalAccessException {
        checkDocument(Path.of(System.getProperty("document", "../shared/DOC.md")));
        checkMembers();
        checkPrivateNames(NestTables.class, new TreeSet<>());
        checkSizes(NestTables.class);
        checkSource(Files.readString(Path.of(System.getProperty("class.source", "src/main/java/NestTables.java"))));
        System.out.println(wrong == 0 ? "the face is as due" : wrong + " things are not as due");
        if (wrong != 0) {
            System.exit(1);
        }
    }

    private static void due(String what, Object got, Object want) {
        if (!got.equals(want)) {
            wrong++;
            System.out.println(what + ": " + got + ", due is " + want);
        }
    }

    /** What this test asks of the class is what the document's face has, no more and no less. */
    private static void checkDocument(Path path) throws IOException {
        if (!Files.exists(path)) {
            System.out.println(path + " is not there: the face is not compared with it");
            return;
        }
        String text = Files.readString(path);
        int from = text.indexOf("```java\n", text.indexOf("\n## The public face\n"));
        String face = text.substring(from, text.indexOf("\n```\n", from));
        Set<String> methods = new TreeSet<>();
        Matcher lines = Pattern.compile("(?m)^    public (int|double) (\\w+)\\((.*)\\);$").matcher(face);
        while (lines.find()) {
            methods.add(lines.group(1) + " " + lines.group(2) + "(" + lines.group(3).replaceAll("int \\w+", "int") + ")");
        }
        due("the document's methods", methods, new TreeSet<>(Arrays.asList(METHODS)));
        Set<String> constants = new TreeSet<>();
        Matcher numbers = Pattern.compile("(\\w+) = (-?\\d+)").matcher(face);
        while (numbers.find()) {
            constants.add(numbers.group(1) + "=" + numbers.group(2));
        }
        due("the document's constants", constants, new TreeSet<>(Arrays.asList(CONSTANTS)));
        due("the document's public lines", face.lines().filter(line -> line.contains("public ")).count(), METHODS.length + 3L);
    }

    private static void checkMembers() throws IllegalAccessException {
        Class<?> face = NestTables.class;
        due("public and final", Modifier.isPublic(face.getModifiers()) && Modifier.isFinal(face.getModifiers()), true);
        Set<String> methods = new TreeSet<>();
        for (Method method : face.getDeclaredMethods()) {
            if (!Modifier.isPrivate(method.getModifiers())) {
                String parameters = String.join(", ", Arrays.stream(method.getParameterTypes()).map(Class::getName).toList());
                methods.add(method.getReturnType() + " " + method.getName() + "(" + parameters + ")");
            }
        }
        due("methods", methods, new TreeSet<>(Arrays.asList(METHODS)));
        Set<String> constants = new TreeSet<>();
        for (Field field : face.getDeclaredFields()) {
            due("static fields are final: " + field.getName(), !Modifier.isStatic(field.getModifiers())
                || Modifier.isFinal(field.getModifiers()), true);
            if (!Modifier.isPrivate(field.getModifiers())) {
                constants.add(field.getName() + "=" + field.getInt(null));
            }
        }
        due("constants", constants, new TreeSet<>(Arrays.asList(CONSTANTS)));
        Constructor<?>[] constructors = face.getDeclaredConstructors();
        due("one constructor", constructors.length, 1);
        due("the constructor takes nothing", constructors[0].getParameterCount(), 0);
    }

    private static void checkPrivateNames(Class<?> face, Set<String> names) {
        for (String method : METHODS) {
            names.add(method.substring(method.indexOf(' ') + 1, method.indexOf('(')));
        }
        for (Class<?> inside : face.getDeclaredClasses()) {
            due("static inside: " + inside, Modifier.isStatic(inside.getModifiers()), true);
            for (Method method : inside.getDeclaredMethods()) {
                due("the face's name inside: " + method, names.contains(method.getName()), false);
            }
        }
        for (Method method : face.getDeclaredMethods()) {
            if (Modifier.isPrivate(method.getModifiers())) {
                due("the face's name in private: " + method, names.contains(method.getName()), false);
            }
        }
    }

    /** Rule 11: seven parameters, some twelve classes, some twenty fields beside the constants. */
    private static void checkSizes(Class<?> face) {
        List<Class<?>> classes = new ArrayList<>(Arrays.asList(face.getDeclaredClasses()));
        classes.add(face);
        due("at most twelve classes", classes.size() <= 12, true);
        for (Class<?> each : classes) {
            long fields = Arrays.stream(each.getDeclaredFields()).filter(f -> !Modifier.isStatic(f.getModifiers())).count();
            due("at most twenty fields in " + each, fields <= 20, true);
            for (Method method : each.getDeclaredMethods()) {
                due("at most seven parameters of " + method, method.getParameterCount() <= 7, true);
            }
        }
    }

    /** Rule 11: a method's lines, from one at the methods' indentation that opens a block to the one that closes it. */
    private static void checkMethodLengths(String source) {
        Matcher methods = Pattern.compile("(?m)^( {4}| {8})\\S[^\n;]*\\) \\{\n(?s:.*?)^\\1\\}$").matcher(source);
        int seen = 0;
        while (methods.find()) {
            seen++;
            due("lines of " + methods.group().lines().findFirst().get().trim(), methods.group().lines().count() <= 60, true);
        }
        due("methods seen", seen > METHODS.length, true);
    }

    private static void checkSource(String source) {
        checkMethodLengths(source);
        String code = source.replaceAll("(?s)/\\*.*?\\*/", "").replaceAll("//[^\n]*", "");
        for (String pattern : FORBIDDEN) {
            Matcher matcher = Pattern.compile(pattern).matcher(code);
            due("found of " + pattern, matcher.find() ? matcher.group() : "nothing", "nothing");
        }
        due("only characters 1 to 127", source.chars().allMatch(c -> c >= 1 && c <= 127), true);
        Matcher imports = Pattern.compile("import ([\\w.*]+);").matcher(code);
        while (imports.find()) {
            due("import", imports.group(1), "java.util.Arrays");
        }
    }
}

import java.io.File;
import java.io.IOException;
import java.lang.reflect.InvocationTargetException;
import java.lang.reflect.Method;
import java.lang.reflect.Modifier;
import java.nio.file.Files;
import java.nio.file.Path;
import java.util.regex.Matcher;
import java.util.regex.Pattern;

/** README.md: each call of its examples answers the number in its comment; every method and test is named. */
public final class ReadmeTest {
    private static final Pattern MADE = Pattern.compile("StripDie die = new StripDie\\(\\);");
    private static final Pattern TEXT = Pattern.compile("String text = \"(.*)\";");
    private static final Pattern TYPED = Pattern.compile("\\s+die\\.type\\(text\\.charAt\\(i\\)\\);");
    private static final Pattern CALL = Pattern.compile("die\\.(\\w+)\\(([-\\w, ]*)\\);\\s+// (-?\\d+): .*");
    private static final Pattern LOOP = Pattern.compile("for \\(int i = 0; i < text\\.length\\(\\); i\\+\\+\\) \\{|\\}");

    private static final Check check = new Check("ReadmeTest");

    private static StripDie die;
    private static String text;
    private static int calls;

    public static void main(String[] args) throws IOException {
        String page = Files.readString(Path.of("README.md"));
        Matcher blocks = Pattern.compile("(?s)```java\n(.*?)```").matcher(page);
        while (blocks.find()) {
            for (String line : blocks.group(1).split("\n")) {
                follow(line);
            }
        }
        check.is("calls were tried", 1, calls > 0 ? 1 : 0);
        namesMethods(page);
        namesTests(page);
        check.end();
    }

    private static void follow(String line) {
        Matcher given = TEXT.matcher(line);
        Matcher call = CALL.matcher(line);
        if (MADE.matcher(line).matches()) {
            die = new StripDie();
        } else if (given.matches()) {
            text = given.group(1);
        } else if (TYPED.matcher(line).matches()) {
            Scenes.type(die, text);
        } else if (call.matches()) {
            calls++;
            check.compare(line, call.group(3), answer(call.group(1), call.group(2)));
        } else {
            check.compare("a line that can be followed", "", LOOP.matcher(line).matches() ? "" : line);
        }
    }

    private static String answer(String name, String arguments) {
        String[] words = arguments.isEmpty() ? new String[0] : arguments.split(", ");
        for (Method m : StripDie.class.getMethods()) {
            if (m.getName().equals(name) && m.getParameterCount() == words.length) {
                try {
                    return String.valueOf(m.invoke(die, values(m, words)));
                } catch (InvocationTargetException e) {
                    return "throws " + e.getCause().getClass().getSimpleName();
                } catch (IllegalAccessException e) {
                    return "is not public";
                }
            }
        }
        return "no such method";
    }

    private static Object[] values(Method m, String[] words) {
        Object[] values = new Object[words.length];
        for (int i = 0; i < words.length; i++) {
            boolean truth = m.getParameterTypes()[i] == boolean.class;
            values[i] = truth ? (Object) Boolean.valueOf(words[i]) : (Object) Integer.valueOf(words[i]);
        }
        return values;
    }

    private static void namesMethods(String page) {
        for (Method m : StripDie.class.getDeclaredMethods()) {
            if (Modifier.isPublic(m.getModifiers())) {
                check.is("names " + m.getName(), 1, page.contains("`" + m.getName() + "`") ? 1 : 0);
            }
        }
    }

    private static void namesTests(String page) {
        File[] files = new File("src/test/java").listFiles((folder, name) -> name.endsWith("Test.java"));
        check.is("tests are there", 1, files != null && files.length > 0 ? 1 : 0);
        for (File f : files) {
            String name = f.getName().replace(".java", "");
            check.is("names " + name, 1, page.contains("| `" + name + "` |") ? 1 : 0);
        }
    }
}

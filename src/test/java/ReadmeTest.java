import java.lang.reflect.Method;
import java.lang.reflect.Modifier;
import java.nio.file.Files;
import java.nio.file.Path;
import java.util.Set;
import java.util.TreeSet;
import java.util.regex.Matcher;
import java.util.regex.Pattern;

/** The README's calls answer what stands behind them, and its table names each call of the face once. */
public final class ReadmeTest {
    private static final Path README = Path.of("README.md");
    private static final Pattern CALL = Pattern.compile("x\\.(\\w+)\\((.*)\\); +// (-?\\d+)\\b.*");
    private static int checked = 0;
    private static int wrong = 0;

    public static void main(String[] args) throws Exception {
        theExamples();
        theTable();
        System.out.println(checked + " lines of README.md checked, " + wrong + " are not as due");
        System.exit(wrong == 0 && checked > 0 ? 0 : 1);
    }

    private static void holds(String what, boolean holds) {
        checked++;
        if (!holds) {
            wrong++;
            System.out.println("README.md: " + what);
        }
    }

    /** All lines of a Java example are calls with an answer, but the one that makes a new object. */
    private static void theExamples() throws Exception {
        SmoothNeighbours x = null;
        boolean isJava = false;
        for (String line : Files.readAllLines(README)) {
            Matcher call = CALL.matcher(line);
            if (line.startsWith("```")) {
                isJava = line.equals("```java");
            } else if (isJava && line.startsWith("SmoothNeighbours x = new SmoothNeighbours();")) {
                x = new SmoothNeighbours();
            } else if (isJava) {
                boolean isCall = x != null && call.matches();
                holds(line, isCall && answer(x, call.group(1), call.group(2)) == Long.parseLong(call.group(3)));
            }
        }
    }

    private static long answer(SmoothNeighbours x, String name, String arguments) throws Exception {
        String[] texts = arguments.isEmpty() ? new String[0] : arguments.split(", ");
        Object[] values = new Object[texts.length];
        for (int i = 0; i < texts.length; i++) {
            values[i] = Integer.decode(texts[i]);
        }
        for (Method method : SmoothNeighbours.class.getDeclaredMethods()) {
            if (Modifier.isPublic(method.getModifiers()) && method.getName().equals(name)) {
                Object answer = method.invoke(x, values);
                return answer instanceof Boolean ? ((Boolean) answer ? 1 : 0) : ((Number) answer).longValue();
            }
        }
        throw new IllegalArgumentException("no call " + name);
    }

    private static void theTable() throws Exception {
        Set<String> named = new TreeSet<>();
        for (String line : Files.readAllLines(README)) {
            Matcher name = Pattern.compile("`(\\w+)`").matcher(line.startsWith("| ") ? line : "");
            while (name.find()) {
                holds(name.group(1) + " is named twice", named.add(name.group(1)));
            }
        }
        Set<String> there = new TreeSet<>();
        for (Method method : SmoothNeighbours.class.getDeclaredMethods()) {
            if (Modifier.isPublic(method.getModifiers())) {
                there.add(method.getName());
            }
        }
        holds("the table names " + named + ", the class has " + there, named.equals(there));
    }
}

import java.lang.management.ManagementFactory;
import java.lang.reflect.Constructor;
import java.lang.reflect.Field;
import java.lang.reflect.Method;
import java.lang.reflect.Modifier;
import java.nio.file.Files;
import java.nio.file.Path;
import java.util.Arrays;
import java.util.HashSet;
import java.util.List;
import java.util.Set;
import java.util.TreeSet;
import java.util.regex.Matcher;
import java.util.regex.Pattern;
import java.util.stream.Collectors;

/** What of the rules of LANGUAGE.md a program can see: the face, the library, sizes, and the room of a run. */
public final class RulesTest {
    private static final Path SOURCE = Path.of("src/main/java/SmoothNeighbours.java");
    private static final Path DOCUMENT = Path.of("../shared/DOC.md");
    private static final int MOST_METHOD_LINES = 60;
    private static final int MOST_CLASSES = 12;
    private static final int MOST_FIELDS = 20;
    private static final int MOST_PARAMETERS = 7;
    /** Some 600,000 objects and 7.3 million elements are there for a run: this stays far below. */
    private static final long MOST_BYTES = 2000000;
    private static int wrong = 0;

    public static void main(String[] args) throws Exception {
        String source = Files.readString(SOURCE);
        String code = withoutTexts(source);
        theFace();
        theClassesInside();
        theWords(code);
        theMethods(source);
        theRoom();
        System.out.println(wrong == 0 ? "the rules are kept" : wrong + " rules are broken");
        System.exit(wrong == 0 ? 0 : 1);
    }

    private static void holds(String rule, boolean holds) {
        if (!holds) {
            wrong++;
            System.out.println("broken: " + rule);
        }
    }

    /** The public face is the one of the document, and nothing else can be seen. */
    private static void theFace() throws Exception {
        Set<String> wanted = new TreeSet<>();
        Matcher line = Pattern.compile("    public (int|long|boolean) (\\w+)\\((.*)\\);").matcher(Files.readString(DOCUMENT));
        while (line.find()) {
            String types = Arrays.stream(line.group(3).split(", ")).map(p -> p.split(" ")[0]).collect(Collectors.joining(","));
            wanted.add(line.group(1) + " " + line.group(2) + "(" + types + ")");
        }
        Set<String> there = new TreeSet<>();
        Set<String> names = new HashSet<>();
        for (Method method : SmoothNeighbours.class.getDeclaredMethods()) {
            if (Modifier.isPublic(method.getModifiers())) {
                String types = Arrays.stream(method.getParameterTypes()).map(Class::getName).collect(Collectors.joining(","));
                there.add(method.getReturnType().getName() + " " + method.getName() + "(" + types + ")");
                names.add(method.getName());
                holds(method + " throws nothing told", method.getExceptionTypes().length == 0);
            }
        }
        holds("the document tells methods", wanted.size() > 50);
        holds("the methods are " + wanted + ", not " + there, wanted.equals(there));
        for (Method method : SmoothNeighbours.class.getDeclaredMethods()) {
            boolean isPublic = Modifier.isPublic(method.getModifiers());
            holds(method + " is public or private", isPublic || Modifier.isPrivate(method.getModifiers()));
            holds(method + " bears a name of the face", isPublic || !names.contains(method.getName()));
        }
        Set<String> fields = new TreeSet<>();
        for (Field field : SmoothNeighbours.class.getDeclaredFields()) {
            boolean isPublic = Modifier.isPublic(field.getModifiers());
            holds(field + " is public or private", isPublic || Modifier.isPrivate(field.getModifiers()));
            if (isPublic) {
                fields.add(field.getName());
            }
        }
        holds("NONE is the one public field", fields.equals(Set.of("NONE")));
        Constructor<?>[] constructors = SmoothNeighbours.class.getDeclaredConstructors();
        holds("one public constructor", constructors.length == 1 && Modifier.isPublic(constructors[0].getModifiers()));
        holds("the class is final", Modifier.isFinal(SmoothNeighbours.class.getModifiers()));
    }

    private static void theClassesInside() {
        Class<?>[] inside = SmoothNeighbours.class.getDeclaredClasses();
        holds("at most " + MOST_CLASSES + " classes", inside.length + 1 <= MOST_CLASSES);
        for (Class<?> type : inside) {
            holds(type + " is private and static", Modifier.isPrivate(type.getModifiers()) && Modifier.isStatic(type.getModifiers()));
            theMembers(type);
        }
        theMembers(SmoothNeighbours.class);
    }

    private static void theMembers(Class<?> type) {
        int fields = 0;
        for (Field field : type.getDeclaredFields()) {
            boolean isStatic = Modifier.isStatic(field.getModifiers());
            fields += isStatic ? 0 : 1;
            holds(field + " is final, as it is static", !isStatic || Modifier.isFinal(field.getModifiers()));
        }
        holds(type + " has at most " + MOST_FIELDS + " fields", fields <= MOST_FIELDS);
        for (Method method : type.getDeclaredMethods()) {
            holds(method + " has few parameters", method.getParameterCount() <= MOST_PARAMETERS);
        }
        for (Constructor<?> constructor : type.getDeclaredConstructors()) {
            holds(constructor + " has few parameters", constructor.getParameterCount() <= MOST_PARAMETERS);
        }
    }

    private static String withoutTexts(String source) {
        return source.replaceAll("(?s)/\\*.*?\\*/", " ").replaceAll("//[^\n]*", " ")
                .replaceAll("'(\\\\.|[^'\\\\])'", "0").replaceAll("\"(\\\\.|[^\"\\\\])*\"", "0");
    }

    private static void theWords(String code) {
        for (String word : List.of("throw", "throws", "try", "catch", "finally", "synchronized", "assert", "instanceof",
                "System", "Thread", "Random", "Object", "String", "Double", "Float", "protected", "volatile", "native",
                "transient", "strictfp", "var", "enum", "record", "interface")) {
            holds("the word " + word + " is not there", !Pattern.compile("\\b" + word + "\\b").matcher(code).find());
        }
        holds("no lambda", !code.contains("->"));
        holds("no method reference", !code.contains("::"));
        holds("no exact arithmetic", !code.contains("Exact"));
        holds("no annotation", !code.contains("@"));
        holds("no package", !Pattern.compile("(?m)^package").matcher(code).find());
        Matcher imports = Pattern.compile("(?m)^import (.*);").matcher(code);
        while (imports.find()) {
            holds("import of " + imports.group(1), imports.group(1).equals("java.util.Arrays"));
        }
        Matcher library = Pattern.compile("\\b(Arrays|Math|Integer|Long)\\.(\\w+)").matcher(code);
        Set<String> allowed = Set.of("Arrays.fill", "Math.max", "Math.min", "Math.floorMod", "Integer.bitCount");
        while (library.find()) {
            holds("use of " + library.group(), allowed.contains(library.group()));
        }
        holds("no loop without an end", !Pattern.compile("while \\(true\\)|for \\(;;|for \\([^;]*; *;").matcher(code).find());
        holds("signs 1 to 127 alone", code.chars().allMatch(c -> c >= 1 && c <= 127));
    }

    /** A method begins where a line ends in an opening brace, four or eight columns in, and ends at its own column. */
    private static void theMethods(String source) {
        String[] lines = source.split("\n");
        for (int first = 0; first < lines.length; first++) {
            Matcher head = Pattern.compile("^( {4}| {8})(\\w.*\\)) \\{$").matcher(lines[first]);
            if (!head.matches() || !lines[first].contains("(")) {
                continue;
            }
            int last = first;
            while (last < lines.length - 1 && !lines[last].equals(head.group(1) + "}")) {
                last++;
            }
            holds(head.group(2) + " is short", last - first + 1 <= MOST_METHOD_LINES);
        }
    }

    /** A run that goes through every set of primes and asks what is dear. */
    private static void theRoom() {
        var threads = (com.sun.management.ThreadMXBean) ManagementFactory.getThreadMXBean();
        runOfAll(1);
        long before = threads.getCurrentThreadAllocatedBytes();
        int answers = runOfAll(128);
        long bytes = threads.getCurrentThreadAllocatedBytes() - before;
        System.out.println("a run over all sets makes " + bytes + " bytes (" + answers + ")");
        holds("a run makes few objects: " + bytes + " bytes", bytes <= MOST_BYTES);
    }

    private static int runOfAll(int sets) {
        SmoothNeighbours x = new SmoothNeighbours();
        int answers = 0;
        for (int bits = 0; bits < sets; bits++) {
            answers += x.choose(bits) + x.twos() + x.proof() + x.bestPrime() + x.greatLong(400) + x.sums(3000, 1);
        }
        for (int i = 0; i < 100; i++) {
            answers += x.order(8, 4, i) + x.rank(i) + x.feed(1, 2, 3, 4, 5) + x.meanLength() + (int) x.thick(i);
        }
        return answers;
    }
}

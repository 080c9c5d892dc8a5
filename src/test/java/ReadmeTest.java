import java.io.IOException;
import java.lang.reflect.Method;
import java.lang.reflect.Modifier;
import java.net.URL;
import java.net.URLClassLoader;
import java.nio.file.Files;
import java.nio.file.Path;
import java.util.ArrayList;
import java.util.HashSet;
import java.util.List;
import java.util.Set;
import java.util.regex.Matcher;
import java.util.regex.Pattern;
import javax.tools.JavaCompiler;
import javax.tools.ToolProvider;

/** README.md: its Java compiles, and the answers that it shows are those that the class gives. */
final class ReadmeTest {
    private static final Pattern BLOCK = Pattern.compile("(?s)```java\\n(.*?)```");
    /** A call with its answer behind it. */
    private static final Pattern SHOWN =
            Pattern.compile("(?m)^(lab\\.(\\w+)\\(.*?\\)); +// (-?\\d+(?:\\.\\d+)?|[A-Z_]{4,})\\b.*$");
    private static final Pattern CALL = Pattern.compile("(?m)^ *lab\\.\\w+\\(");
    /** The one call that stands in a loop, where no single answer can be shown. */
    private static final int IN_LOOPS = 1;

    private static final Checks CHECKS = new Checks("README.md");

    private ReadmeTest() {
    }

    public static void main(String[] args) throws IOException, ReflectiveOperationException {
        String code = javaOf(Files.readString(Path.of("README.md")));
        everyCallShowsItsAnswer(code);
        everyMethodIsShown(code);
        answersAreThoseOfTheClass(code);
        CHECKS.end();
    }

    /** Each piece of Java is one block, since each begins with an object of its own. */
    private static String javaOf(String page) {
        StringBuilder code = new StringBuilder();
        Matcher block = BLOCK.matcher(page);
        while (block.find()) {
            code.append("{\n").append(block.group(1)).append("}\n");
        }
        return code.toString();
    }

    private static void everyCallShowsItsAnswer(String code) {
        CHECKS.due("calls without an answer", CALL.matcher(code).results().count(),
                SHOWN.matcher(code).results().count() + IN_LOOPS);
    }

    private static void everyMethodIsShown(String code) {
        Set<String> shown = new HashSet<>();
        SHOWN.matcher(code).results().forEach(call -> shown.add(call.group(2)));
        for (Method method : StackLab.class.getDeclaredMethods()) {
            if (Modifier.isPublic(method.getModifiers())) {
                CHECKS.dueTrue(method.getName() + " is shown", shown.contains(method.getName()));
            }
        }
    }

    private static void answersAreThoseOfTheClass(String code) throws IOException, ReflectiveOperationException {
        List<String> calls = new ArrayList<>();
        List<Double> due = new ArrayList<>();
        Matcher call = SHOWN.matcher(code);
        while (call.find()) {
            calls.add(call.group(1));
            due.add(valueOf(call.group(3)));
        }
        double[] got = answersOf(code);
        CHECKS.due("answers", got.length, due.size());
        for (int k = 0; k < got.length && k < due.size(); k++) {
            CHECKS.due(calls.get(k), got[k], due.get(k));
        }
    }

    private static double valueOf(String answer) throws ReflectiveOperationException {
        boolean named = Character.isUpperCase(answer.charAt(0));
        return named ? StackLab.class.getField(answer).getInt(null) : Double.parseDouble(answer);
    }

    /** Compiles the Java so that it keeps what each shown call answers, and runs it. */
    private static double[] answersOf(String code) throws IOException, ReflectiveOperationException {
        String source = "public final class Shown {\n"
                + "public static double[] answers() {\n"
                + "java.util.List<Double> got = new java.util.ArrayList<>();\n"
                + SHOWN.matcher(code).replaceAll("got.add((double) $1);")
                + "return got.stream().mapToDouble(Double::doubleValue).toArray();\n}\n}\n";
        Path room = Files.createTempDirectory("readme");
        Path file = Files.writeString(room.resolve("Shown.java"), source);
        try {
            return compiles(file) ? run(room) : new double[0];
        } finally {
            Files.deleteIfExists(room.resolve("Shown.class"));
            Files.delete(file);
            Files.delete(room);
        }
    }

    private static boolean compiles(Path file) {
        JavaCompiler compiler = ToolProvider.getSystemJavaCompiler();
        int wrong = compiler.run(null, null, null, "-cp", System.getProperty("java.class.path"), "-d",
                file.getParent().toString(), file.toString());
        CHECKS.due("compiling the Java of README.md", wrong, 0);
        return wrong == 0;
    }

    private static double[] run(Path room) throws IOException, ReflectiveOperationException {
        URL[] places = {room.toUri().toURL()};
        try (URLClassLoader loader = new URLClassLoader(places, ReadmeTest.class.getClassLoader())) {
            return (double[]) loader.loadClass("Shown").getMethod("answers").invoke(null);
        }
    }
}

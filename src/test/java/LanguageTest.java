import java.io.IOException;
import java.nio.file.Files;
import java.nio.file.Path;
import java.util.regex.Matcher;
import java.util.regex.Pattern;

/** The rules of LANGUAGE.md that can be seen in the text of the class. */
final class LanguageTest {
    private static final String[] FORBIDDEN = {"->", "::", "\\btry\\b", "\\bcatch\\b", "\\bfinally\\b",
        "\\bthrow\\b", "\\bthrows\\b", "\\bsynchronized\\b", "\\bassert\\b", "\\bpackage\\b", "\\bvar\\b",
        "\\bObject\\b", "\\bnull\\b", "\\bpublic\\b(?! (static final int|final class|int|float|StackLab)\\b)",
        "\\bprotected\\b", "\\bnative\\b", "Exact\\(", "\\bdouble\\b", "\\binstanceof\\b", "\\bList\\b",
        "\\bString\\b", "\\bwhile\\b", "\\bstatic \\{", "[^\\x00-\\x7f]"};
    private static final String[] ALLOWED_CALLS = {"System.arraycopy", "Arrays.fill", "Math.min"};
    private static final int LONGEST_METHOD = 60;

    private static final Checks CHECKS = new Checks();

    private LanguageTest() {
    }

    public static void main(String[] args) throws IOException {
        String source = Files.readString(Path.of("src/main/java/StackLab.java"));
        String code = source.replaceAll("(?s)/\\*.*?\\*/", "").replaceAll("//[^\\n]*", "");
        for (String forbidden : FORBIDDEN) {
            Matcher found = Pattern.compile(forbidden).matcher(code);
            CHECKS.dueTrue("there is no " + forbidden, !found.find());
        }
        imports(code);
        libraryCalls(code);
        parameters(code);
        methodLengths(code);
        loopsHaveCounters(code);
        CHECKS.end();
    }

    private static void imports(String code) {
        Matcher found = Pattern.compile("import ([^;]*);").matcher(code);
        while (found.find()) {
            CHECKS.dueTrue("import " + found.group(1), found.group(1).equals("java.util.Arrays"));
        }
    }

    private static void libraryCalls(String code) {
        Matcher found = Pattern.compile("\\b(System|Arrays|Math|Integer|Long|Character|Float)\\.\\w+").matcher(code);
        while (found.find()) {
            boolean allowed = false;
            for (String call : ALLOWED_CALLS) {
                allowed |= call.equals(found.group());
            }
            CHECKS.dueTrue(found.group() + " is allowed", allowed);
        }
    }

    private static void parameters(String code) {
        Matcher found = Pattern.compile("\\b(?:void|int|long|boolean|float) (\\w+)\\(([^)]*)\\) \\{").matcher(code);
        while (found.find()) {
            CHECKS.dueTrue(found.group(1) + " has at most seven parameters", found.group(2).split(",").length <= 7);
        }
    }

    private static void methodLengths(String code) {
        Matcher found = Pattern.compile("(?m)^( +)(?:\\w+ )*(\\w+)\\([^)]*\\) \\{\\n").matcher(code);
        while (found.find()) {
            String end = "\n" + found.group(1) + "}";
            int last = code.indexOf(end, found.end() - 1);
            long lines = code.substring(found.end(), Math.max(found.end(), last)).lines().count();
            CHECKS.dueTrue(found.group(2) + " is short", lines <= LONGEST_METHOD);
        }
    }

    private static void loopsHaveCounters(String code) {
        Matcher found = Pattern.compile("\\bfor \\(([^;]*);([^;]*);([^{]*)\\) \\{").matcher(code);
        int loops = 0;
        while (found.find()) {
            loops++;
            boolean counts = found.group(3).matches("\\s*\\w+(\\+\\+|--)\\s*");
            CHECKS.dueTrue("a loop that counts: " + found.group(), counts && found.group(2).matches("(?s).*(<|>=).*"));
        }
        CHECKS.due("every loop is looked at", loops, code.split("\\bfor \\(").length - 1);
    }
}
